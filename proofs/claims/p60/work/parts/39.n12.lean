/-! WHAT EACH METHOD LEAVES ALONE: X11_number, X11_length, X11_rowSum, X11_borrow, X11_bring, X11_check, X11_settle, X11_checksum, X11_isSound, L_person, L_wipe, L_drop, L_sizeOf, L_items, L_item, L_cameFrom, L_type, L_alter, L_undo, L_put, L_change, L_kindOf, L_open, L_setBound, L_lean, L_stand, L_carry. -/
section
def wX11_number (i : Nat) : Prop := (2 ≤ i ∧ i ≤ 8) ∨ i = 11 ∨ (19 ≤ i ∧ i ≤ 25) ∨ (27 ≤ i ∧ i ≤ 33) ∨ (36 ≤ i ∧ i ≤ 54) ∨ (56 ≤ i ∧ i ≤ 60) ∨ (62 ≤ i ∧ i ≤ 69) ∨ (71 ≤ i ∧ i ≤ 90) ∨ (256 ≤ i ∧ i ≤ 347) ∨ i = 3000
set_option maxHeartbeats 4000000 in
theorem NX11_number {F : Nat} {Ln Ln1 : Nat → Nat} {V V1 : mV} {v : (String ⊕ Int32)} {l1I : Int32} (h : mX11_number F Ln l1I V = some (v, Ln1, V1)) : mAv (wX11_number) V V1 ∧ mAl (wX11_number) Ln Ln1 := by
  unfold mX11_number at h
  rcases mBT_some h with ⟨E0, L0, V0, h1, h⟩ | ⟨v1, L2, V2, h1, h⟩
  · have y1 := NX11_refreshed h1
    obtain ⟨_, rfl, rfl⟩ := mRA3 h
    exact ⟨mAv.tr mAv.rf y1.1 (fun i z => by unfold wX11_refreshed at z; unfold wX11_number; omega), mAl.tr mAl.rf y1.2 (fun i z => by unfold wX11_refreshed at z; unfold wX11_number; omega)⟩
  · have k1 := KX11_refreshed h1
    have y1 := NX11_refreshed h1
    have a1 : mAv (wX11_number) V V2 := mAv.tr mAv.rf y1.1 (fun i z => by unfold wX11_refreshed at z; unfold wX11_number; omega)
    have b1 : mAl (wX11_number) Ln L2 := mAl.tr mAl.rf y1.2 (fun i z => by unfold wX11_refreshed at z; unfold wX11_number; omega)
    obtain ⟨_, rfl, rfl⟩ := mRA3 h
    exact ⟨a1, b1⟩
def wX11_length (i : Nat) : Prop := (2 ≤ i ∧ i ≤ 8) ∨ i = 11 ∨ (19 ≤ i ∧ i ≤ 25) ∨ (27 ≤ i ∧ i ≤ 33) ∨ (36 ≤ i ∧ i ≤ 54) ∨ (56 ≤ i ∧ i ≤ 60) ∨ (62 ≤ i ∧ i ≤ 69) ∨ (71 ≤ i ∧ i ≤ 90) ∨ (256 ≤ i ∧ i ≤ 347) ∨ i = 3000
set_option maxHeartbeats 4000000 in
theorem NX11_length {F : Nat} {Ln Ln1 : Nat → Nat} {V V1 : mV} {v : (String ⊕ Int32)} {l1I : Int32} (h : mX11_length F Ln l1I V = some (v, Ln1, V1)) : mAv (wX11_length) V V1 ∧ mAl (wX11_length) Ln Ln1 := by
  unfold mX11_length at h
  rcases mBT_some h with ⟨E0, L0, V0, h1, h⟩ | ⟨v1, L2, V2, h1, h⟩
  · have y1 := NX11_refreshed h1
    obtain ⟨_, rfl, rfl⟩ := mRA3 h
    exact ⟨mAv.tr mAv.rf y1.1 (fun i z => by unfold wX11_refreshed at z; unfold wX11_length; omega), mAl.tr mAl.rf y1.2 (fun i z => by unfold wX11_refreshed at z; unfold wX11_length; omega)⟩
  · have k1 := KX11_refreshed h1
    have y1 := NX11_refreshed h1
    have a1 : mAv (wX11_length) V V2 := mAv.tr mAv.rf y1.1 (fun i z => by unfold wX11_refreshed at z; unfold wX11_length; omega)
    have b1 : mAl (wX11_length) Ln L2 := mAl.tr mAl.rf y1.2 (fun i z => by unfold wX11_refreshed at z; unfold wX11_length; omega)
    obtain ⟨_, rfl, rfl⟩ := mRA3 h
    exact ⟨a1, b1⟩
def wX11_rowSum (i : Nat) : Prop := (2 ≤ i ∧ i ≤ 8) ∨ i = 11 ∨ (19 ≤ i ∧ i ≤ 25) ∨ (27 ≤ i ∧ i ≤ 33) ∨ (36 ≤ i ∧ i ≤ 54) ∨ (56 ≤ i ∧ i ≤ 60) ∨ (62 ≤ i ∧ i ≤ 69) ∨ (71 ≤ i ∧ i ≤ 90) ∨ (256 ≤ i ∧ i ≤ 347) ∨ i = 3000
set_option maxHeartbeats 4000000 in
theorem NX11_rowSum {F : Nat} {Ln Ln1 : Nat → Nat} {V V1 : mV} {v : (String ⊕ Int64)} {l1I : Int32} (h : mX11_rowSum F Ln l1I V = some (v, Ln1, V1)) : mAv (wX11_rowSum) V V1 ∧ mAl (wX11_rowSum) Ln Ln1 := by
  unfold mX11_rowSum at h
  rcases mBT_some h with ⟨E0, L0, V0, h1, h⟩ | ⟨v1, L2, V2, h1, h⟩
  · have y1 := NX11_refreshed h1
    obtain ⟨_, rfl, rfl⟩ := mRA3 h
    exact ⟨mAv.tr mAv.rf y1.1 (fun i z => by unfold wX11_refreshed at z; unfold wX11_rowSum; omega), mAl.tr mAl.rf y1.2 (fun i z => by unfold wX11_refreshed at z; unfold wX11_rowSum; omega)⟩
  · have k1 := KX11_refreshed h1
    have y1 := NX11_refreshed h1
    have a1 : mAv (wX11_rowSum) V V2 := mAv.tr mAv.rf y1.1 (fun i z => by unfold wX11_refreshed at z; unfold wX11_rowSum; omega)
    have b1 : mAl (wX11_rowSum) Ln L2 := mAl.tr mAl.rf y1.2 (fun i z => by unfold wX11_refreshed at z; unfold wX11_rowSum; omega)
    obtain ⟨v6, _, h⟩ := mBN_some h
    obtain ⟨_, rfl, rfl⟩ := mRA3 h
    exact ⟨a1, b1⟩
def wX11_borrow (i : Nat) : Prop := (2 ≤ i ∧ i ≤ 8) ∨ i = 11 ∨ (19 ≤ i ∧ i ≤ 25) ∨ (27 ≤ i ∧ i ≤ 33) ∨ (36 ≤ i ∧ i ≤ 54) ∨ (56 ≤ i ∧ i ≤ 60) ∨ (62 ≤ i ∧ i ≤ 69) ∨ (71 ≤ i ∧ i ≤ 90) ∨ (256 ≤ i ∧ i ≤ 347) ∨ (2048 ≤ i ∧ i ≤ 2049) ∨ i = 3000
set_option maxHeartbeats 4000000 in
theorem NX11_borrow {F : Nat} {Ln Ln1 : Nat → Nat} {V V1 : mV} {v : (String ⊕ Int32)} {l1I : Int32} (h : mX11_borrow F Ln l1I V = some (v, Ln1, V1)) : mAv (wX11_borrow) V V1 ∧ mAl (wX11_borrow) Ln Ln1 := by
  unfold mX11_borrow at h
  rcases mBT_some h with ⟨E0, L0, V0, h1, h⟩ | ⟨v1, L2, V2, h1, h⟩
  · have y1 := NX11_refreshed h1
    obtain ⟨_, rfl, rfl⟩ := mRA3 h
    exact ⟨mAv.tr mAv.rf y1.1 (fun i z => by unfold wX11_refreshed at z; unfold wX11_borrow; omega), mAl.tr mAl.rf y1.2 (fun i z => by unfold wX11_refreshed at z; unfold wX11_borrow; omega)⟩
  · have k1 := KX11_refreshed h1
    have y1 := NX11_refreshed h1
    have a1 : mAv (wX11_borrow) V V2 := mAv.tr mAv.rf y1.1 (fun i z => by unfold wX11_refreshed at z; unfold wX11_borrow; omega)
    have b1 : mAl (wX11_borrow) Ln L2 := mAl.tr mAl.rf y1.2 (fun i z => by unfold wX11_refreshed at z; unfold wX11_borrow; omega)
    rcases mIf_some h with ⟨_, h⟩ | ⟨_, h⟩
    · obtain ⟨v7, L8, V8, h2, h⟩ := mBA_some h
      have y2 := NX9_copy h2
      have a2 : mAv (wX11_borrow) V V8 := mAv.tr a1 y2.1 (fun i z => by unfold wX9_copy at z; unfold wX11_borrow; omega)
      have b2 : mAl (wX11_borrow) Ln L8 := mAl.tr b1 y2.2 (fun i z => by unfold wX9_copy at z; unfold wX11_borrow; omega)
      obtain ⟨_, rfl, rfl⟩ := mRA3 h
      exact ⟨a2, b2⟩
    · obtain ⟨_, rfl, rfl, _⟩ := mTh_some h
      exact ⟨a1, mAl.up b1 (by unfold wX11_borrow; omega)⟩
def wX11_bring (i : Nat) : Prop := (2 ≤ i ∧ i ≤ 8) ∨ i = 11 ∨ (18 ≤ i ∧ i ≤ 25) ∨ (27 ≤ i ∧ i ≤ 33) ∨ (36 ≤ i ∧ i ≤ 54) ∨ (56 ≤ i ∧ i ≤ 60) ∨ (62 ≤ i ∧ i ≤ 69) ∨ (71 ≤ i ∧ i ≤ 90) ∨ (256 ≤ i ∧ i ≤ 347) ∨ (544 ≤ i ∧ i ≤ 545) ∨ (2048 ≤ i ∧ i ≤ 2049) ∨ i = 3000
def wX11_bring_0 (l2A : Nat) (i : Nat) : Prop := i = 18 ∨ (544 ≤ i ∧ i ≤ 545) ∨ (2048 ≤ i ∧ i ≤ 2049) ∨ i = 3000
set_option maxHeartbeats 4000000 in
theorem NX11_bring_go {F : Nat} {v : (String ⊕ Int32)} {Ln1 : Nat → Nat} {V1 : mV} : ∀ k' : Nat, (∀ (l2A : Nat) (Ln : Nat → Nat) (V : mV), mX11_bring_go F k' 0 Ln l2A V = some (v, Ln1, V1) → mAv (wX11_bring_0 l2A) V V1 ∧ mAl (wX11_bring_0 l2A) Ln Ln1) := by
  intro k'
  induction k' with
  | zero => exact (fun _ _ _ h => by cases h)
  | succ k' ih =>
    intro l2A Ln V h
    rw [mX11_bring_go, if_pos rfl] at h
    unfold mX11_bring_b0 at h
    obtain ⟨v1, V2, h1, h⟩ := mBW_some h
    have a1 : mAv (wX11_bring_0 l2A) V V2 := mAv.tr mAv.rf (NX11_wouldBeCarriedSo h1) (fun i z => by unfold wX11_wouldBeCarriedSo at z; unfold wX11_bring_0; omega)
    rcases mIf_some h with ⟨_, h⟩ | ⟨_, h⟩
    · obtain ⟨_, rfl, rfl, _⟩ := mTh_some h
      exact ⟨a1, mAl.up mAl.rf (by unfold wX11_bring_0; omega)⟩
    · obtain ⟨c2, h⟩ := mGd_some h
      obtain ⟨v9, _, h⟩ := mBN_some h
      rcases mIf_some h with ⟨_, h⟩ | ⟨_, h⟩
      · obtain ⟨_, rfl, rfl, _⟩ := mTh_some h
        exact ⟨a1, mAl.up mAl.rf (by unfold wX11_bring_0; omega)⟩
      · obtain ⟨c3, h⟩ := mGd_some h
        obtain ⟨v17, L18, V18, h4, h⟩ := mBA_some h
        have z4_0 := (Nat.lt_of_not_le (fun z => c3 (Or.inr z)))
        have y4 := NX4_bringBack h4
        have a4 : mAv (wX11_bring_0 l2A) V V18 := mAv.tr a1 y4.1 (fun i z => by unfold wX4_bringBack at z; unfold wX11_bring_0; omega)
        have b4 : mAl (wX11_bring_0 l2A) Ln L18 := mAl.tr mAl.rf y4.2 (fun i z => by unfold wX4_bringBack at z; unfold wX11_bring_0; omega)
        obtain ⟨_, rfl, rfl⟩ := mRA3 h
        exact ⟨a4, b4⟩
set_option maxHeartbeats 4000000 in
theorem NX11_bring {F : Nat} {Ln Ln1 : Nat → Nat} {V V1 : mV} {v : (String ⊕ Int32)} {l1I : Int32} (h : mX11_bring F Ln l1I V = some (v, Ln1, V1)) : mAv (wX11_bring) V V1 ∧ mAl (wX11_bring) Ln Ln1 := by
  have ih := NX11_bring_go (F := F) (v := v) (Ln1 := Ln1) (V1 := V1) F
  unfold mX11_bring mX11_bring_s at h
  rcases mBT_some h with ⟨E0, L0, V0, h5, h⟩ | ⟨v24, L25, V25, h5, h⟩
  · have y5 := NX11_refreshed h5
    obtain ⟨_, rfl, rfl⟩ := mRA3 h
    exact ⟨mAv.tr mAv.rf y5.1 (fun i z => by unfold wX11_refreshed at z; unfold wX11_bring; omega), mAl.tr mAl.rf y5.2 (fun i z => by unfold wX11_refreshed at z; unfold wX11_bring; omega)⟩
  · have k5 := KX11_refreshed h5
    have y5 := NX11_refreshed h5
    have a5 : mAv (wX11_bring) V V25 := mAv.tr mAv.rf y5.1 (fun i z => by unfold wX11_refreshed at z; unfold wX11_bring; omega)
    have b5 : mAl (wX11_bring) Ln L25 := mAl.tr mAl.rf y5.2 (fun i z => by unfold wX11_refreshed at z; unfold wX11_bring; omega)
    rcases mIf_some h with ⟨_, h⟩ | ⟨_, h⟩
    · have y := ih _ _ _ h
      exact ⟨mAv.tr a5 y.1 (fun i z => by unfold wX11_bring_0 at z; unfold wX11_bring; omega), mAl.tr b5 y.2 (fun i z => by unfold wX11_bring_0 at z; unfold wX11_bring; omega)⟩
    · rcases mBT_some h with ⟨E0, L0, V0, h6, h⟩ | ⟨v30, L31, V31, h6, h⟩
      · have y6 := NX11_refreshed h6
        obtain ⟨_, rfl, rfl⟩ := mRA3 h
        exact ⟨mAv.tr a5 y6.1 (fun i z => by unfold wX11_refreshed at z; unfold wX11_bring; omega), mAl.tr b5 y6.2 (fun i z => by unfold wX11_refreshed at z; unfold wX11_bring; omega)⟩
      · have k6 := KX11_refreshed h6
        have y6 := NX11_refreshed h6
        have a6 : mAv (wX11_bring) V V31 := mAv.tr a5 y6.1 (fun i z => by unfold wX11_refreshed at z; unfold wX11_bring; omega)
        have b6 : mAl (wX11_bring) Ln L31 := mAl.tr b5 y6.2 (fun i z => by unfold wX11_refreshed at z; unfold wX11_bring; omega)
        have y := ih _ _ _ h
        exact ⟨mAv.tr a6 y.1 (fun i z => by unfold wX11_bring_0 at z; unfold wX11_bring; omega), mAl.tr b6 y.2 (fun i z => by unfold wX11_bring_0 at z; unfold wX11_bring; omega)⟩
def wX11_check (i : Nat) : Prop := (2 ≤ i ∧ i ≤ 8) ∨ i = 11 ∨ (19 ≤ i ∧ i ≤ 34) ∨ (36 ≤ i ∧ i ≤ 54) ∨ (56 ≤ i ∧ i ≤ 60) ∨ (62 ≤ i ∧ i ≤ 69) ∨ (71 ≤ i ∧ i ≤ 90) ∨ (256 ≤ i ∧ i ≤ 347) ∨ i = 3000
set_option maxHeartbeats 4000000 in
theorem NX11_check {F : Nat} {Ln Ln1 : Nat → Nat} {V V1 : mV} {v : (String ⊕ Int32)} {l1I : Int32} {l2I : Int32} (h : mX11_check F Ln l1I l2I V = some (v, Ln1, V1)) : mAv (wX11_check) V V1 ∧ mAl (wX11_check) Ln Ln1 := by
  unfold mX11_check at h
  rcases mBT_some h with ⟨E0, L0, V0, h1, h⟩ | ⟨v1, L2, V2, h1, h⟩
  · have y1 := NX11_refreshed h1
    obtain ⟨_, rfl, rfl⟩ := mRA3 h
    exact ⟨mAv.tr mAv.rf y1.1 (fun i z => by unfold wX11_refreshed at z; unfold wX11_check; omega), mAl.tr mAl.rf y1.2 (fun i z => by unfold wX11_refreshed at z; unfold wX11_check; omega)⟩
  · have k1 := KX11_refreshed h1
    have y1 := NX11_refreshed h1
    have a1 : mAv (wX11_check) V V2 := mAv.tr mAv.rf y1.1 (fun i z => by unfold wX11_refreshed at z; unfold wX11_check; omega)
    have b1 : mAl (wX11_check) Ln L2 := mAl.tr mAl.rf y1.2 (fun i z => by unfold wX11_refreshed at z; unfold wX11_check; omega)
    obtain ⟨v6, V7, h2, h⟩ := mBW_some h
    have a2 : mAv (wX11_check) V V7 := mAv.tr a1 (NX4_judge h2) (fun i z => by unfold wX4_judge at z; unfold wX11_check; omega)
    obtain ⟨_, rfl, rfl⟩ := mRA3 h
    exact ⟨a2, b1⟩
def wX11_settle (i : Nat) : Prop := i = 0 ∨ (2 ≤ i ∧ i ≤ 9) ∨ i = 11 ∨ i = 17 ∨ (19 ≤ i ∧ i ≤ 34) ∨ (36 ≤ i ∧ i ≤ 54) ∨ (56 ≤ i ∧ i ≤ 60) ∨ (62 ≤ i ∧ i ≤ 69) ∨ (71 ≤ i ∧ i ≤ 90) ∨ (256 ≤ i ∧ i ≤ 349) ∨ i = 3000
def wX11_settle_0 (i : Nat) : Prop := i = 0 ∨ (2 ≤ i ∧ i ≤ 9) ∨ i = 11 ∨ i = 17 ∨ (19 ≤ i ∧ i ≤ 34) ∨ (36 ≤ i ∧ i ≤ 54) ∨ (56 ≤ i ∧ i ≤ 60) ∨ (62 ≤ i ∧ i ≤ 69) ∨ (71 ≤ i ∧ i ≤ 90) ∨ (256 ≤ i ∧ i ≤ 349) ∨ i = 3000
set_option maxHeartbeats 4000000 in
theorem NX11_settle_go {F : Nat} {v : (String ⊕ Int32)} {Ln1 : Nat → Nat} {V1 : mV} : ∀ k' : Nat, (∀ (l1I : Int32) (l2I : Int32) (Ln : Nat → Nat) (V : mV), mX11_settle_go F k' 0 Ln l1I l2I V = some (v, Ln1, V1) → mAv (wX11_settle_0) V V1 ∧ mAl (wX11_settle_0) Ln Ln1) := by
  intro k'
  induction k' with
  | zero => exact (fun _ _ _ _ h => by cases h)
  | succ k' ih =>
    intro l1I l2I Ln V h
    rw [mX11_settle_go, if_pos rfl] at h
    unfold mX11_settle_b0 at h
    rcases mIf_some h with ⟨_, h⟩ | ⟨_, h⟩
    · obtain ⟨_, rfl, rfl⟩ := mRA3 h
      exact ⟨mAv.rf, mAl.rf⟩
    · rcases mBT_some h with ⟨E0, L0, V0, h1, h⟩ | ⟨v2, L3, V3, h1, h⟩
      · have y1 := NX11_refreshed h1
        obtain ⟨_, rfl, rfl⟩ := mRA3 h
        exact ⟨mAv.tr mAv.rf y1.1 (fun i z => by unfold wX11_refreshed at z; unfold wX11_settle_0; omega), mAl.tr mAl.rf y1.2 (fun i z => by unfold wX11_refreshed at z; unfold wX11_settle_0; omega)⟩
      · have k1 := KX11_refreshed h1
        have y1 := NX11_refreshed h1
        have a1 : mAv (wX11_settle_0) V V3 := mAv.tr mAv.rf y1.1 (fun i z => by unfold wX11_refreshed at z; unfold wX11_settle_0; omega)
        have b1 : mAl (wX11_settle_0) Ln L3 := mAl.tr mAl.rf y1.2 (fun i z => by unfold wX11_refreshed at z; unfold wX11_settle_0; omega)
        obtain ⟨v7, L8, V8, h2, h⟩ := mBA_some h
        have y2 := NX11_settleEntry h2
        have a2 : mAv (wX11_settle_0) V V8 := mAv.tr a1 y2.1 (fun i z => by unfold wX11_settleEntry at z; unfold wX11_settle_0; omega)
        have b2 : mAl (wX11_settle_0) Ln L8 := mAl.tr b1 y2.2 (fun i z => by unfold wX11_settleEntry at z; unfold wX11_settle_0; omega)
        obtain ⟨v12, L13, V13, h3, h⟩ := mBA_some h
        have y3 := NX11_settleClaims h3
        have a3 : mAv (wX11_settle_0) V V13 := mAv.tr a2 y3.1 (fun i z => by unfold wX11_settleClaims at z; unfold wX11_settle_0; omega)
        have b3 : mAl (wX11_settle_0) Ln L13 := mAl.tr b2 y3.2 (fun i z => by unfold wX11_settleClaims at z; unfold wX11_settle_0; omega)
        obtain ⟨x17, _, h⟩ := mLt_some h
        have y := ih _ _ _ _ h
        exact ⟨mAv.tr a3 y.1 (fun i z => by unfold wX11_settle_0 at z; unfold wX11_settle_0; omega), mAl.tr b3 y.2 (fun i z => by unfold wX11_settle_0 at z; unfold wX11_settle_0; omega)⟩
set_option maxHeartbeats 4000000 in
theorem NX11_settle {F : Nat} {Ln Ln1 : Nat → Nat} {V V1 : mV} {v : (String ⊕ Int32)} (h : mX11_settle F Ln V = some (v, Ln1, V1)) : mAv (wX11_settle) V V1 ∧ mAl (wX11_settle) Ln Ln1 := by
  have ih := NX11_settle_go (F := F) (v := v) (Ln1 := Ln1) (V1 := V1) F
  unfold mX11_settle mX11_settle_s at h
  obtain ⟨x18, _, h⟩ := mLt_some h
  obtain ⟨V19, eV19, h⟩ := mLt_some h
  have a4 : mAv (wX11_settle) V V19 := by rw [eV19]; exact mAv.F mAv.rf (by unfold wX11_settle; omega)
  have y := ih _ _ _ _ h
  exact ⟨mAv.tr a4 y.1 (fun i z => by unfold wX11_settle_0 at z; unfold wX11_settle; omega), mAl.tr mAl.rf y.2 (fun i z => by unfold wX11_settle_0 at z; unfold wX11_settle; omega)⟩
def wX11_checksum (i : Nat) : Prop := (2 ≤ i ∧ i ≤ 8) ∨ i = 11 ∨ (19 ≤ i ∧ i ≤ 25) ∨ (27 ≤ i ∧ i ≤ 33) ∨ (36 ≤ i ∧ i ≤ 54) ∨ (56 ≤ i ∧ i ≤ 60) ∨ (62 ≤ i ∧ i ≤ 69) ∨ (71 ≤ i ∧ i ≤ 90) ∨ (256 ≤ i ∧ i ≤ 347) ∨ i = 3000
def wX11_checksum_0 (i : Nat) : Prop := (2 ≤ i ∧ i ≤ 8) ∨ i = 11 ∨ (19 ≤ i ∧ i ≤ 25) ∨ (27 ≤ i ∧ i ≤ 33) ∨ (36 ≤ i ∧ i ≤ 54) ∨ (56 ≤ i ∧ i ≤ 60) ∨ (62 ≤ i ∧ i ≤ 69) ∨ (71 ≤ i ∧ i ≤ 90) ∨ (256 ≤ i ∧ i ≤ 347) ∨ i = 3000
set_option maxHeartbeats 4000000 in
theorem NX11_checksum_go {F : Nat} {v : (String ⊕ Int64)} {Ln1 : Nat → Nat} {V1 : mV} : ∀ k' : Nat, (∀ (l1J : Int64) (l3I : Int32) (Ln : Nat → Nat) (V : mV), mX11_checksum_go F k' 0 Ln l1J l3I V = some (v, Ln1, V1) → mAv (wX11_checksum_0) V V1 ∧ mAl (wX11_checksum_0) Ln Ln1) := by
  intro k'
  induction k' with
  | zero => exact (fun _ _ _ _ h => by cases h)
  | succ k' ih =>
    intro l1J l3I Ln V h
    rw [mX11_checksum_go, if_pos rfl] at h
    unfold mX11_checksum_b0 at h
    rcases mIf_some h with ⟨_, h⟩ | ⟨_, h⟩
    · obtain ⟨_, rfl, rfl⟩ := mRA3 h
      exact ⟨mAv.rf, mAl.rf⟩
    · rcases mBT_some h with ⟨E0, L0, V0, h1, h⟩ | ⟨v2, L3, V3, h1, h⟩
      · have y1 := NX11_refreshed h1
        obtain ⟨_, rfl, rfl⟩ := mRA3 h
        exact ⟨mAv.tr mAv.rf y1.1 (fun i z => by unfold wX11_refreshed at z; unfold wX11_checksum_0; omega), mAl.tr mAl.rf y1.2 (fun i z => by unfold wX11_refreshed at z; unfold wX11_checksum_0; omega)⟩
      · have k1 := KX11_refreshed h1
        have y1 := NX11_refreshed h1
        have a1 : mAv (wX11_checksum_0) V V3 := mAv.tr mAv.rf y1.1 (fun i z => by unfold wX11_refreshed at z; unfold wX11_checksum_0; omega)
        have b1 : mAl (wX11_checksum_0) Ln L3 := mAl.tr mAl.rf y1.2 (fun i z => by unfold wX11_refreshed at z; unfold wX11_checksum_0; omega)
        obtain ⟨x7, _, h⟩ := mLt_some h
        obtain ⟨x8, _, h⟩ := mLt_some h
        obtain ⟨x9, _, h⟩ := mLt_some h
        obtain ⟨v10, _, h⟩ := mBN_some h
        obtain ⟨x15, _, h⟩ := mLt_some h
        obtain ⟨x16, _, h⟩ := mLt_some h
        have y := ih _ _ _ _ h
        exact ⟨mAv.tr a1 y.1 (fun i z => by unfold wX11_checksum_0 at z; unfold wX11_checksum_0; omega), mAl.tr b1 y.2 (fun i z => by unfold wX11_checksum_0 at z; unfold wX11_checksum_0; omega)⟩
set_option maxHeartbeats 4000000 in
theorem NX11_checksum {F : Nat} {Ln Ln1 : Nat → Nat} {V V1 : mV} {v : (String ⊕ Int64)} (h : mX11_checksum F Ln V = some (v, Ln1, V1)) : mAv (wX11_checksum) V V1 ∧ mAl (wX11_checksum) Ln Ln1 := by
  have ih := NX11_checksum_go (F := F) (v := v) (Ln1 := Ln1) (V1 := V1) F
  unfold mX11_checksum mX11_checksum_s at h
  have y := ih _ _ _ _ h
  exact ⟨mAv.tr mAv.rf y.1 (fun i z => by unfold wX11_checksum_0 at z; unfold wX11_checksum; omega), mAl.tr mAl.rf y.2 (fun i z => by unfold wX11_checksum_0 at z; unfold wX11_checksum; omega)⟩
def wX11_isSound (i : Nat) : Prop := (2 ≤ i ∧ i ≤ 8) ∨ i = 11 ∨ (18 ≤ i ∧ i ≤ 34) ∨ (36 ≤ i ∧ i ≤ 54) ∨ (56 ≤ i ∧ i ≤ 60) ∨ (62 ≤ i ∧ i ≤ 69) ∨ (71 ≤ i ∧ i ≤ 90) ∨ (256 ≤ i ∧ i ≤ 347) ∨ (544 ≤ i ∧ i ≤ 545) ∨ i = 3000
def wX11_isSound_0 (i : Nat) : Prop := (2 ≤ i ∧ i ≤ 8) ∨ i = 11 ∨ (18 ≤ i ∧ i ≤ 34) ∨ (36 ≤ i ∧ i ≤ 54) ∨ (56 ≤ i ∧ i ≤ 60) ∨ (62 ≤ i ∧ i ≤ 69) ∨ (71 ≤ i ∧ i ≤ 90) ∨ (256 ≤ i ∧ i ≤ 347) ∨ (544 ≤ i ∧ i ≤ 545) ∨ i = 3000
def wX11_isSound_1 (i : Nat) : Prop := (2 ≤ i ∧ i ≤ 3) ∨ (5 ≤ i ∧ i ≤ 8) ∨ (18 ≤ i ∧ i ≤ 19) ∨ (21 ≤ i ∧ i ≤ 23) ∨ (26 ≤ i ∧ i ≤ 34) ∨ (52 ≤ i ∧ i ≤ 53) ∨ (62 ≤ i ∧ i ≤ 69) ∨ (71 ≤ i ∧ i ≤ 78) ∨ (83 ≤ i ∧ i ≤ 86) ∨ (88 ≤ i ∧ i ≤ 90) ∨ (544 ≤ i ∧ i ≤ 545)
def wX11_isSound_2 (i : Nat) : Prop := (2 ≤ i ∧ i ≤ 3) ∨ (5 ≤ i ∧ i ≤ 8) ∨ i = 19 ∨ (21 ≤ i ∧ i ≤ 23) ∨ (26 ≤ i ∧ i ≤ 34) ∨ (52 ≤ i ∧ i ≤ 53) ∨ (62 ≤ i ∧ i ≤ 69) ∨ (71 ≤ i ∧ i ≤ 78) ∨ (83 ≤ i ∧ i ≤ 86) ∨ (88 ≤ i ∧ i ≤ 90)
set_option maxHeartbeats 4000000 in
theorem NX11_isSound_go {F : Nat} {v : (String ⊕ Int32)} {Ln1 : Nat → Nat} {V1 : mV} : ∀ k' : Nat, (∀ (l1I : Int32) (Ln : Nat → Nat) (V : mV), mX11_isSound_go F k' 0 Ln l1I V = some (v, Ln1, V1) → mAv (wX11_isSound_0) V V1 ∧ mAl (wX11_isSound_0) Ln Ln1) ∧ (∀ (l1I : Int32) (Ln : Nat → Nat) (V : mV), mX11_isSound_go F k' 1 Ln l1I V = some (v, Ln1, V1) → mAv (wX11_isSound_1) V V1 ∧ mAl (wX11_isSound_1) Ln Ln1) ∧ (∀ (l1I : Int32) (Ln : Nat → Nat) (V : mV), mX11_isSound_go F k' 2 Ln l1I V = some (v, Ln1, V1) → mAv (wX11_isSound_2) V V1 ∧ mAl (wX11_isSound_2) Ln Ln1) := by
  intro k'
  induction k' with
  | zero => exact ⟨(fun _ _ _ h => by cases h), (fun _ _ _ h => by cases h), (fun _ _ _ h => by cases h)⟩
  | succ k' ih =>
    refine ⟨?_, ?_, ?_⟩
    · intro l1I Ln V h
      rw [mX11_isSound_go, if_pos rfl] at h
      unfold mX11_isSound_b0 at h
      rcases mIf_some h with ⟨_, h⟩ | ⟨_, h⟩
      · have y := ih.2.1 _ _ _ h
        exact ⟨mAv.tr mAv.rf y.1 (fun i z => by unfold wX11_isSound_1 at z; unfold wX11_isSound_0; omega), mAl.tr mAl.rf y.2 (fun i z => by unfold wX11_isSound_1 at z; unfold wX11_isSound_0; omega)⟩
      · rcases mBT_some h with ⟨E0, L0, V0, h1, h⟩ | ⟨v2, L3, V3, h1, h⟩
        · have y1 := NX11_refreshed h1
          obtain ⟨_, rfl, rfl⟩ := mRA3 h
          exact ⟨mAv.tr mAv.rf y1.1 (fun i z => by unfold wX11_refreshed at z; unfold wX11_isSound_0; omega), mAl.tr mAl.rf y1.2 (fun i z => by unfold wX11_refreshed at z; unfold wX11_isSound_0; omega)⟩
        · have k1 := KX11_refreshed h1
          have y1 := NX11_refreshed h1
          have a1 : mAv (wX11_isSound_0) V V3 := mAv.tr mAv.rf y1.1 (fun i z => by unfold wX11_refreshed at z; unfold wX11_isSound_0; omega)
          have b1 : mAl (wX11_isSound_0) Ln L3 := mAl.tr mAl.rf y1.2 (fun i z => by unfold wX11_refreshed at z; unfold wX11_isSound_0; omega)
          obtain ⟨x7, _, h⟩ := mLt_some h
          have y := ih.1 _ _ _ h
          exact ⟨mAv.tr a1 y.1 (fun i z => by unfold wX11_isSound_0 at z; unfold wX11_isSound_0; omega), mAl.tr b1 y.2 (fun i z => by unfold wX11_isSound_0 at z; unfold wX11_isSound_0; omega)⟩
    · intro l1I Ln V h
      rw [mX11_isSound_go, if_neg (by decide), if_pos rfl] at h
      unfold mX11_isSound_b1 at h
      rcases mIf_some h with ⟨_, h⟩ | ⟨_, h⟩
      · have y := ih.2.2 _ _ _ h
        exact ⟨mAv.tr mAv.rf y.1 (fun i z => by unfold wX11_isSound_2 at z; unfold wX11_isSound_1; omega), mAl.tr mAl.rf y.2 (fun i z => by unfold wX11_isSound_2 at z; unfold wX11_isSound_1; omega)⟩
      · obtain ⟨c2, h⟩ := mGd_some h
        obtain ⟨v11, V12, h3, h⟩ := mBW_some h
        have z3_0 := (Nat.lt_of_not_le (fun z => c2 (Or.inr z)))
        have a3 : mAv (wX11_isSound_1) V V12 := mAv.tr mAv.rf (NX11_isSoundEntry h3) (fun i z => by unfold wX11_isSoundEntry at z; unfold wX11_isSound_1; omega)
        rcases mIf_some h with ⟨_, h⟩ | ⟨_, h⟩
        · obtain ⟨_, rfl, rfl⟩ := mRA3 h
          exact ⟨a3, mAl.rf⟩
        · obtain ⟨x17, _, h⟩ := mLt_some h
          have y := ih.2.1 _ _ _ h
          exact ⟨mAv.tr a3 y.1 (fun i z => by unfold wX11_isSound_1 at z; unfold wX11_isSound_1; omega), mAl.tr mAl.rf y.2 (fun i z => by unfold wX11_isSound_1 at z; unfold wX11_isSound_1; omega)⟩
    · intro l1I Ln V h
      rw [mX11_isSound_go, if_neg (by decide), if_neg (by decide), if_pos rfl] at h
      unfold mX11_isSound_b2 at h
      rcases mIf_some h with ⟨_, h⟩ | ⟨_, h⟩
      · obtain ⟨_, rfl, rfl⟩ := mRA3 h
        exact ⟨mAv.rf, mAl.rf⟩
      · obtain ⟨c4, h⟩ := mGd_some h
        obtain ⟨v21, V22, h5, h⟩ := mBW_some h
        have a5 : mAv (wX11_isSound_2) V V22 := mAv.tr mAv.rf (NX11_isUnsoundClaim h5) (fun i z => by unfold wX11_isUnsoundClaim at z; unfold wX11_isSound_2; omega)
        rcases mIf_some h with ⟨_, h⟩ | ⟨_, h⟩
        · obtain ⟨x27, _, h⟩ := mLt_some h
          have y := ih.2.2 _ _ _ h
          exact ⟨mAv.tr a5 y.1 (fun i z => by unfold wX11_isSound_2 at z; unfold wX11_isSound_2; omega), mAl.tr mAl.rf y.2 (fun i z => by unfold wX11_isSound_2 at z; unfold wX11_isSound_2; omega)⟩
        · obtain ⟨_, rfl, rfl⟩ := mRA3 h
          exact ⟨a5, mAl.rf⟩
set_option maxHeartbeats 4000000 in
theorem NX11_isSound {F : Nat} {Ln Ln1 : Nat → Nat} {V V1 : mV} {v : (String ⊕ Int32)} (h : mX11_isSound F Ln V = some (v, Ln1, V1)) : mAv (wX11_isSound) V V1 ∧ mAl (wX11_isSound) Ln Ln1 := by
  have ih := NX11_isSound_go (F := F) (v := v) (Ln1 := Ln1) (V1 := V1) F
  unfold mX11_isSound mX11_isSound_s at h
  have y := ih.1 _ _ _ h
  exact ⟨mAv.tr mAv.rf y.1 (fun i z => by unfold wX11_isSound_0 at z; unfold wX11_isSound; omega), mAl.tr mAl.rf y.2 (fun i z => by unfold wX11_isSound_0 at z; unfold wX11_isSound; omega)⟩
def wL_person (i : Nat) : Prop := i = 0 ∨ i = 3000
set_option maxHeartbeats 4000000 in
theorem NL_person {G : wkG} {F : Nat} {Ln Ln1 : Nat → Nat} {V V1 : mV} {v : Int64} (h : mL_person G F Ln V = some (v, Ln1, V1)) : mAv (wL_person) V V1 ∧ mAl (wL_person) Ln Ln1 := by
  unfold mL_person at h
  rcases mBT_some h with ⟨E6, L7, V7, h1, h⟩ | ⟨v1, L2, V2, h1, h⟩
  · have y1 := NX11_person h1
    have a1 : mAv (wL_person) V V7 := mAv.tr mAv.rf y1.1 (fun i z => by unfold wX11_person at z; unfold wL_person; omega)
    have b1 : mAl (wL_person) Ln L7 := mAl.tr mAl.rf y1.2 (fun i z => by unfold wX11_person at z; unfold wL_person; omega)
    rcases mIf_some h with ⟨_, h⟩ | ⟨_, h⟩
    · obtain ⟨_, rfl, rfl⟩ := mRA3 h
      exact ⟨a1, b1⟩
    · cases h
  · have y1 := NX11_person h1
    have a1 : mAv (wL_person) V V2 := mAv.tr mAv.rf y1.1 (fun i z => by unfold wX11_person at z; unfold wL_person; omega)
    have b1 : mAl (wL_person) Ln L2 := mAl.tr mAl.rf y1.2 (fun i z => by unfold wX11_person at z; unfold wL_person; omega)
    obtain ⟨_, rfl, rfl⟩ := mRA3 h
    exact ⟨a1, b1⟩
def wL_wipe (i : Nat) : Prop := i = 2048
set_option maxHeartbeats 4000000 in
theorem NL_wipe {G : wkG} {F : Nat} {V V1 : mV} {v : Int64} (h : mL_wipe G F V = some (v, V1)) : mAv (wL_wipe) V V1 := by
  unfold mL_wipe at h
  obtain ⟨v1, V2, h1, h⟩ := mBW_some h
  have a1 : mAv (wL_wipe) V V2 := mAv.tr mAv.rf (NX11_wipe h1) (fun i z => by unfold wX11_wipe at z; unfold wL_wipe; omega)
  obtain ⟨_, rfl⟩ := mRW h
  exact a1
def wL_drop (i : Nat) : Prop := i = 0 ∨ (14 ≤ i ∧ i ≤ 15) ∨ (256 ≤ i ∧ i ≤ 345) ∨ (352 ≤ i ∧ i ≤ 537) ∨ i = 3000
set_option maxHeartbeats 4000000 in
theorem NL_drop {G : wkG} {F : Nat} {Ln Ln1 : Nat → Nat} {V V1 : mV} {v : Int64} {l1I : Int32} {l2I : Int32} (h : mL_drop G F Ln l1I l2I V = some (v, Ln1, V1)) : mAv (wL_drop) V V1 ∧ mAl (wL_drop) Ln Ln1 := by
  unfold mL_drop at h
  rcases mBT_some h with ⟨E6, L7, V7, h1, h⟩ | ⟨v1, L2, V2, h1, h⟩
  · have y1 := NX11_drop h1
    have a1 : mAv (wL_drop) V V7 := mAv.tr mAv.rf y1.1 (fun i z => by unfold wX11_drop at z; unfold wL_drop; omega)
    have b1 : mAl (wL_drop) Ln L7 := mAl.tr mAl.rf y1.2 (fun i z => by unfold wX11_drop at z; unfold wL_drop; omega)
    rcases mIf_some h with ⟨_, h⟩ | ⟨_, h⟩
    · obtain ⟨_, rfl, rfl⟩ := mRA3 h
      exact ⟨a1, b1⟩
    · rcases mIf_some h with ⟨_, h⟩ | ⟨_, h⟩
      · obtain ⟨_, rfl, rfl⟩ := mRA3 h
        exact ⟨a1, b1⟩
      · cases h
  · have y1 := NX11_drop h1
    have a1 : mAv (wL_drop) V V2 := mAv.tr mAv.rf y1.1 (fun i z => by unfold wX11_drop at z; unfold wL_drop; omega)
    have b1 : mAl (wL_drop) Ln L2 := mAl.tr mAl.rf y1.2 (fun i z => by unfold wX11_drop at z; unfold wL_drop; omega)
    obtain ⟨_, rfl, rfl⟩ := mRA3 h
    exact ⟨a1, b1⟩
def wL_sizeOf (i : Nat) : Prop := i = 3000
set_option maxHeartbeats 4000000 in
theorem NL_sizeOf {G : wkG} {F : Nat} {Ln Ln1 : Nat → Nat} {V V1 : mV} {v : Int64} {l1I : Int32} (h : mL_sizeOf G F Ln l1I V = some (v, Ln1, V1)) : mAv (wL_sizeOf) V V1 ∧ mAl (wL_sizeOf) Ln Ln1 := by
  unfold mL_sizeOf at h
  rcases mBT_some h with ⟨E6, L7, V7, h1, h⟩ | ⟨v1, L2, V2, h1, h⟩
  · have y1 := NX11_sizeOf h1
    have a1 : mAv (wL_sizeOf) V V7 := mAv.tr mAv.rf y1.1 (fun i z => by unfold wX11_sizeOf at z; unfold wL_sizeOf; omega)
    have b1 : mAl (wL_sizeOf) Ln L7 := mAl.tr mAl.rf y1.2 (fun i z => by unfold wX11_sizeOf at z; unfold wL_sizeOf; omega)
    rcases mIf_some h with ⟨_, h⟩ | ⟨_, h⟩
    · obtain ⟨_, rfl, rfl⟩ := mRA3 h
      exact ⟨a1, b1⟩
    · cases h
  · have y1 := NX11_sizeOf h1
    have a1 : mAv (wL_sizeOf) V V2 := mAv.tr mAv.rf y1.1 (fun i z => by unfold wX11_sizeOf at z; unfold wL_sizeOf; omega)
    have b1 : mAl (wL_sizeOf) Ln L2 := mAl.tr mAl.rf y1.2 (fun i z => by unfold wX11_sizeOf at z; unfold wL_sizeOf; omega)
    obtain ⟨_, rfl, rfl⟩ := mRA3 h
    exact ⟨a1, b1⟩
def wL_items (i : Nat) : Prop := i = 3000
set_option maxHeartbeats 4000000 in
theorem NL_items {G : wkG} {F : Nat} {Ln Ln1 : Nat → Nat} {V V1 : mV} {v : Int64} {l1I : Int32} (h : mL_items G F Ln l1I V = some (v, Ln1, V1)) : mAv (wL_items) V V1 ∧ mAl (wL_items) Ln Ln1 := by
  unfold mL_items at h
  rcases mBT_some h with ⟨E6, L7, V7, h1, h⟩ | ⟨v1, L2, V2, h1, h⟩
  · have y1 := NX11_items h1
    have a1 : mAv (wL_items) V V7 := mAv.tr mAv.rf y1.1 (fun i z => by unfold wX11_items at z; unfold wL_items; omega)
    have b1 : mAl (wL_items) Ln L7 := mAl.tr mAl.rf y1.2 (fun i z => by unfold wX11_items at z; unfold wL_items; omega)
    rcases mIf_some h with ⟨_, h⟩ | ⟨_, h⟩
    · obtain ⟨_, rfl, rfl⟩ := mRA3 h
      exact ⟨a1, b1⟩
    · cases h
  · have y1 := NX11_items h1
    have a1 : mAv (wL_items) V V2 := mAv.tr mAv.rf y1.1 (fun i z => by unfold wX11_items at z; unfold wL_items; omega)
    have b1 : mAl (wL_items) Ln L2 := mAl.tr mAl.rf y1.2 (fun i z => by unfold wX11_items at z; unfold wL_items; omega)
    obtain ⟨_, rfl, rfl⟩ := mRA3 h
    exact ⟨a1, b1⟩
def wL_item (i : Nat) : Prop := i = 3000
set_option maxHeartbeats 4000000 in
theorem NL_item {G : wkG} {F : Nat} {Ln Ln1 : Nat → Nat} {V V1 : mV} {v : Int64} {l1I : Int32} {l2I : Int32} {l3I : Int32} (h : mL_item G F Ln l1I l2I l3I V = some (v, Ln1, V1)) : mAv (wL_item) V V1 ∧ mAl (wL_item) Ln Ln1 := by
  unfold mL_item at h
  rcases mBT_some h with ⟨E6, L7, V7, h1, h⟩ | ⟨v1, L2, V2, h1, h⟩
  · have y1 := NX11_item h1
    have a1 : mAv (wL_item) V V7 := mAv.tr mAv.rf y1.1 (fun i z => by unfold wX11_item at z; unfold wL_item; omega)
    have b1 : mAl (wL_item) Ln L7 := mAl.tr mAl.rf y1.2 (fun i z => by unfold wX11_item at z; unfold wL_item; omega)
    rcases mIf_some h with ⟨_, h⟩ | ⟨_, h⟩
    · obtain ⟨_, rfl, rfl⟩ := mRA3 h
      exact ⟨a1, b1⟩
    · rcases mIf_some h with ⟨_, h⟩ | ⟨_, h⟩
      · obtain ⟨_, rfl, rfl⟩ := mRA3 h
        exact ⟨a1, b1⟩
      · rcases mIf_some h with ⟨_, h⟩ | ⟨_, h⟩
        · obtain ⟨_, rfl, rfl⟩ := mRA3 h
          exact ⟨a1, b1⟩
        · cases h
  · have y1 := NX11_item h1
    have a1 : mAv (wL_item) V V2 := mAv.tr mAv.rf y1.1 (fun i z => by unfold wX11_item at z; unfold wL_item; omega)
    have b1 : mAl (wL_item) Ln L2 := mAl.tr mAl.rf y1.2 (fun i z => by unfold wX11_item at z; unfold wL_item; omega)
    obtain ⟨_, rfl, rfl⟩ := mRA3 h
    exact ⟨a1, b1⟩
def wL_cameFrom (i : Nat) : Prop := i = 3000
set_option maxHeartbeats 4000000 in
theorem NL_cameFrom {G : wkG} {F : Nat} {Ln Ln1 : Nat → Nat} {V V1 : mV} {v : Int64} {l1I : Int32} (h : mL_cameFrom G F Ln l1I V = some (v, Ln1, V1)) : mAv (wL_cameFrom) V V1 ∧ mAl (wL_cameFrom) Ln Ln1 := by
  unfold mL_cameFrom at h
  rcases mBT_some h with ⟨E6, L7, V7, h1, h⟩ | ⟨v1, L2, V2, h1, h⟩
  · have y1 := NX11_cameFrom h1
    have a1 : mAv (wL_cameFrom) V V7 := mAv.tr mAv.rf y1.1 (fun i z => by unfold wX11_cameFrom at z; unfold wL_cameFrom; omega)
    have b1 : mAl (wL_cameFrom) Ln L7 := mAl.tr mAl.rf y1.2 (fun i z => by unfold wX11_cameFrom at z; unfold wL_cameFrom; omega)
    rcases mIf_some h with ⟨_, h⟩ | ⟨_, h⟩
    · obtain ⟨_, rfl, rfl⟩ := mRA3 h
      exact ⟨a1, b1⟩
    · rcases mIf_some h with ⟨_, h⟩ | ⟨_, h⟩
      · obtain ⟨_, rfl, rfl⟩ := mRA3 h
        exact ⟨a1, b1⟩
      · cases h
  · have y1 := NX11_cameFrom h1
    have a1 : mAv (wL_cameFrom) V V2 := mAv.tr mAv.rf y1.1 (fun i z => by unfold wX11_cameFrom at z; unfold wL_cameFrom; omega)
    have b1 : mAl (wL_cameFrom) Ln L2 := mAl.tr mAl.rf y1.2 (fun i z => by unfold wX11_cameFrom at z; unfold wL_cameFrom; omega)
    obtain ⟨_, rfl, rfl⟩ := mRA3 h
    exact ⟨a1, b1⟩
def wL_type (i : Nat) : Prop := (2048 ≤ i ∧ i ≤ 2049) ∨ i = 3000
set_option maxHeartbeats 4000000 in
theorem NL_type {G : wkG} {F : Nat} {Ln Ln1 : Nat → Nat} {V V1 : mV} {v : Int64} {l1I : Int32} (h : mL_type G F Ln l1I V = some (v, Ln1, V1)) : mAv (wL_type) V V1 ∧ mAl (wL_type) Ln Ln1 := by
  unfold mL_type at h
  rcases mBT_some h with ⟨E6, L7, V7, h1, h⟩ | ⟨v1, L2, V2, h1, h⟩
  · have y1 := NX11_type h1
    have a1 : mAv (wL_type) V V7 := mAv.tr mAv.rf y1.1 (fun i z => by unfold wX11_type at z; unfold wL_type; omega)
    have b1 : mAl (wL_type) Ln L7 := mAl.tr mAl.rf y1.2 (fun i z => by unfold wX11_type at z; unfold wL_type; omega)
    rcases mIf_some h with ⟨_, h⟩ | ⟨_, h⟩
    · obtain ⟨_, rfl, rfl⟩ := mRA3 h
      exact ⟨a1, b1⟩
    · cases h
  · have y1 := NX11_type h1
    have a1 : mAv (wL_type) V V2 := mAv.tr mAv.rf y1.1 (fun i z => by unfold wX11_type at z; unfold wL_type; omega)
    have b1 : mAl (wL_type) Ln L2 := mAl.tr mAl.rf y1.2 (fun i z => by unfold wX11_type at z; unfold wL_type; omega)
    obtain ⟨_, rfl, rfl⟩ := mRA3 h
    exact ⟨a1, b1⟩
def wL_alter (i : Nat) : Prop := i = 2049 ∨ i = 3000
set_option maxHeartbeats 4000000 in
theorem NL_alter {G : wkG} {F : Nat} {Ln Ln1 : Nat → Nat} {V V1 : mV} {v : Int64} {l1I : Int32} {l2I : Int32} (h : mL_alter G F Ln l1I l2I V = some (v, Ln1, V1)) : mAv (wL_alter) V V1 ∧ mAl (wL_alter) Ln Ln1 := by
  unfold mL_alter at h
  rcases mBT_some h with ⟨E6, L7, V7, h1, h⟩ | ⟨v1, L2, V2, h1, h⟩
  · have y1 := NX11_alter h1
    have a1 : mAv (wL_alter) V V7 := mAv.tr mAv.rf y1.1 (fun i z => by unfold wX11_alter at z; unfold wL_alter; omega)
    have b1 : mAl (wL_alter) Ln L7 := mAl.tr mAl.rf y1.2 (fun i z => by unfold wX11_alter at z; unfold wL_alter; omega)
    rcases mIf_some h with ⟨_, h⟩ | ⟨_, h⟩
    · obtain ⟨_, rfl, rfl⟩ := mRA3 h
      exact ⟨a1, b1⟩
    · cases h
  · have y1 := NX11_alter h1
    have a1 : mAv (wL_alter) V V2 := mAv.tr mAv.rf y1.1 (fun i z => by unfold wX11_alter at z; unfold wL_alter; omega)
    have b1 : mAl (wL_alter) Ln L2 := mAl.tr mAl.rf y1.2 (fun i z => by unfold wX11_alter at z; unfold wL_alter; omega)
    obtain ⟨_, rfl, rfl⟩ := mRA3 h
    exact ⟨a1, b1⟩
def wL_undo (i : Nat) : Prop := i = 0 ∨ i = 17 ∨ (256 ≤ i ∧ i ≤ 345) ∨ i = 3000
set_option maxHeartbeats 4000000 in
theorem NL_undo {G : wkG} {F : Nat} {Ln Ln1 : Nat → Nat} {V V1 : mV} {v : Int64} (h : mL_undo G F Ln V = some (v, Ln1, V1)) : mAv (wL_undo) V V1 ∧ mAl (wL_undo) Ln Ln1 := by
  unfold mL_undo at h
  rcases mBT_some h with ⟨E6, L7, V7, h1, h⟩ | ⟨v1, L2, V2, h1, h⟩
  · have y1 := NX11_undo h1
    have a1 : mAv (wL_undo) V V7 := mAv.tr mAv.rf y1.1 (fun i z => by unfold wX11_undo at z; unfold wL_undo; omega)
    have b1 : mAl (wL_undo) Ln L7 := mAl.tr mAl.rf y1.2 (fun i z => by unfold wX11_undo at z; unfold wL_undo; omega)
    rcases mIf_some h with ⟨_, h⟩ | ⟨_, h⟩
    · obtain ⟨_, rfl, rfl⟩ := mRA3 h
      exact ⟨a1, b1⟩
    · cases h
  · have y1 := NX11_undo h1
    have a1 : mAv (wL_undo) V V2 := mAv.tr mAv.rf y1.1 (fun i z => by unfold wX11_undo at z; unfold wL_undo; omega)
    have b1 : mAl (wL_undo) Ln L2 := mAl.tr mAl.rf y1.2 (fun i z => by unfold wX11_undo at z; unfold wL_undo; omega)
    obtain ⟨_, rfl, rfl⟩ := mRA3 h
    exact ⟨a1, b1⟩
def wL_put (i : Nat) : Prop := i = 0 ∨ i = 12 ∨ (14 ≤ i ∧ i ≤ 15) ∨ (256 ≤ i ∧ i ≤ 345) ∨ (352 ≤ i ∧ i ≤ 537) ∨ i = 3000
set_option maxHeartbeats 4000000 in
theorem NL_put {G : wkG} {F : Nat} {Ln Ln1 : Nat → Nat} {V V1 : mV} {v : Int64} {l1I : Int32} {l2I : Int32} {l3I : Int32} {l4I : Int32} {l5I : Int32} {l6I : Int32} (h : mL_put G F Ln l1I l2I l3I l4I l5I l6I V = some (v, Ln1, V1)) : mAv (wL_put) V V1 ∧ mAl (wL_put) Ln Ln1 := by
  unfold mL_put at h
  rcases mBT_some h with ⟨E6, L7, V7, h1, h⟩ | ⟨v1, L2, V2, h1, h⟩
  · have y1 := NX11_put h1
    have a1 : mAv (wL_put) V V7 := mAv.tr mAv.rf y1.1 (fun i z => by unfold wX11_put at z; unfold wL_put; omega)
    have b1 : mAl (wL_put) Ln L7 := mAl.tr mAl.rf y1.2 (fun i z => by unfold wX11_put at z; unfold wL_put; omega)
    rcases mIf_some h with ⟨_, h⟩ | ⟨_, h⟩
    · obtain ⟨_, rfl, rfl⟩ := mRA3 h
      exact ⟨a1, b1⟩
    · rcases mIf_some h with ⟨_, h⟩ | ⟨_, h⟩
      · obtain ⟨_, rfl, rfl⟩ := mRA3 h
        exact ⟨a1, b1⟩
      · rcases mIf_some h with ⟨_, h⟩ | ⟨_, h⟩
        · obtain ⟨_, rfl, rfl⟩ := mRA3 h
          exact ⟨a1, b1⟩
        · rcases mIf_some h with ⟨_, h⟩ | ⟨_, h⟩
          · obtain ⟨_, rfl, rfl⟩ := mRA3 h
            exact ⟨a1, b1⟩
          · cases h
  · have y1 := NX11_put h1
    have a1 : mAv (wL_put) V V2 := mAv.tr mAv.rf y1.1 (fun i z => by unfold wX11_put at z; unfold wL_put; omega)
    have b1 : mAl (wL_put) Ln L2 := mAl.tr mAl.rf y1.2 (fun i z => by unfold wX11_put at z; unfold wL_put; omega)
    obtain ⟨_, rfl, rfl⟩ := mRA3 h
    exact ⟨a1, b1⟩
def wL_change (i : Nat) : Prop := i = 0 ∨ i = 12 ∨ (14 ≤ i ∧ i ≤ 15) ∨ (256 ≤ i ∧ i ≤ 345) ∨ (352 ≤ i ∧ i ≤ 537) ∨ i = 3000
set_option maxHeartbeats 4000000 in
theorem NL_change {G : wkG} {F : Nat} {Ln Ln1 : Nat → Nat} {V V1 : mV} {v : Int64} {l1I : Int32} {l2I : Int32} {l3I : Int32} {l4I : Int32} {l5I : Int32} {l6I : Int32} {l7I : Int32} (h : mL_change G F Ln l1I l2I l3I l4I l5I l6I l7I V = some (v, Ln1, V1)) : mAv (wL_change) V V1 ∧ mAl (wL_change) Ln Ln1 := by
  unfold mL_change at h
  rcases mBT_some h with ⟨E6, L7, V7, h1, h⟩ | ⟨v1, L2, V2, h1, h⟩
  · have y1 := NX11_change h1
    have a1 : mAv (wL_change) V V7 := mAv.tr mAv.rf y1.1 (fun i z => by unfold wX11_change at z; unfold wL_change; omega)
    have b1 : mAl (wL_change) Ln L7 := mAl.tr mAl.rf y1.2 (fun i z => by unfold wX11_change at z; unfold wL_change; omega)
    rcases mIf_some h with ⟨_, h⟩ | ⟨_, h⟩
    · obtain ⟨_, rfl, rfl⟩ := mRA3 h
      exact ⟨a1, b1⟩
    · rcases mIf_some h with ⟨_, h⟩ | ⟨_, h⟩
      · obtain ⟨_, rfl, rfl⟩ := mRA3 h
        exact ⟨a1, b1⟩
      · rcases mIf_some h with ⟨_, h⟩ | ⟨_, h⟩
        · obtain ⟨_, rfl, rfl⟩ := mRA3 h
          exact ⟨a1, b1⟩
        · rcases mIf_some h with ⟨_, h⟩ | ⟨_, h⟩
          · obtain ⟨_, rfl, rfl⟩ := mRA3 h
            exact ⟨a1, b1⟩
          · cases h
  · have y1 := NX11_change h1
    have a1 : mAv (wL_change) V V2 := mAv.tr mAv.rf y1.1 (fun i z => by unfold wX11_change at z; unfold wL_change; omega)
    have b1 : mAl (wL_change) Ln L2 := mAl.tr mAl.rf y1.2 (fun i z => by unfold wX11_change at z; unfold wL_change; omega)
    obtain ⟨_, rfl, rfl⟩ := mRA3 h
    exact ⟨a1, b1⟩
def wL_kindOf (i : Nat) : Prop := i = 3000
set_option maxHeartbeats 4000000 in
theorem NL_kindOf {G : wkG} {F : Nat} {Ln Ln1 : Nat → Nat} {V V1 : mV} {v : Int64} {l1I : Int32} (h : mL_kindOf G F Ln l1I V = some (v, Ln1, V1)) : mAv (wL_kindOf) V V1 ∧ mAl (wL_kindOf) Ln Ln1 := by
  unfold mL_kindOf at h
  rcases mBT_some h with ⟨E6, L7, V7, h1, h⟩ | ⟨v1, L2, V2, h1, h⟩
  · have y1 := NX11_kindOf h1
    have a1 : mAv (wL_kindOf) V V7 := mAv.tr mAv.rf y1.1 (fun i z => by unfold wX11_kindOf at z; unfold wL_kindOf; omega)
    have b1 : mAl (wL_kindOf) Ln L7 := mAl.tr mAl.rf y1.2 (fun i z => by unfold wX11_kindOf at z; unfold wL_kindOf; omega)
    rcases mIf_some h with ⟨_, h⟩ | ⟨_, h⟩
    · obtain ⟨_, rfl, rfl⟩ := mRA3 h
      exact ⟨a1, b1⟩
    · cases h
  · have y1 := NX11_kindOf h1
    have a1 : mAv (wL_kindOf) V V2 := mAv.tr mAv.rf y1.1 (fun i z => by unfold wX11_kindOf at z; unfold wL_kindOf; omega)
    have b1 : mAl (wL_kindOf) Ln L2 := mAl.tr mAl.rf y1.2 (fun i z => by unfold wX11_kindOf at z; unfold wL_kindOf; omega)
    obtain ⟨_, rfl, rfl⟩ := mRA3 h
    exact ⟨a1, b1⟩
def wL_open (i : Nat) : Prop := i = 0 ∨ (14 ≤ i ∧ i ≤ 15) ∨ (256 ≤ i ∧ i ≤ 344) ∨ (352 ≤ i ∧ i ≤ 537) ∨ i = 3000
set_option maxHeartbeats 4000000 in
theorem NL_open {G : wkG} {F : Nat} {Ln Ln1 : Nat → Nat} {V V1 : mV} {v : Int64} {l1I : Int32} {l2I : Int32} {l3I : Int32} (h : mL_open G F Ln l1I l2I l3I V = some (v, Ln1, V1)) : mAv (wL_open) V V1 ∧ mAl (wL_open) Ln Ln1 := by
  unfold mL_open at h
  rcases mBT_some h with ⟨E6, L7, V7, h1, h⟩ | ⟨v1, L2, V2, h1, h⟩
  · have y1 := NX11_open h1
    have a1 : mAv (wL_open) V V7 := mAv.tr mAv.rf y1.1 (fun i z => by unfold wX11_open at z; unfold wL_open; omega)
    have b1 : mAl (wL_open) Ln L7 := mAl.tr mAl.rf y1.2 (fun i z => by unfold wX11_open at z; unfold wL_open; omega)
    rcases mIf_some h with ⟨_, h⟩ | ⟨_, h⟩
    · obtain ⟨_, rfl, rfl⟩ := mRA3 h
      exact ⟨a1, b1⟩
    · rcases mIf_some h with ⟨_, h⟩ | ⟨_, h⟩
      · obtain ⟨_, rfl, rfl⟩ := mRA3 h
        exact ⟨a1, b1⟩
      · cases h
  · have y1 := NX11_open h1
    have a1 : mAv (wL_open) V V2 := mAv.tr mAv.rf y1.1 (fun i z => by unfold wX11_open at z; unfold wL_open; omega)
    have b1 : mAl (wL_open) Ln L2 := mAl.tr mAl.rf y1.2 (fun i z => by unfold wX11_open at z; unfold wL_open; omega)
    obtain ⟨_, rfl, rfl⟩ := mRA3 h
    exact ⟨a1, b1⟩
def wL_setBound (i : Nat) : Prop := i = 0 ∨ (2 ≤ i ∧ i ≤ 8) ∨ i = 11 ∨ (14 ≤ i ∧ i ≤ 15) ∨ (19 ≤ i ∧ i ≤ 25) ∨ (27 ≤ i ∧ i ≤ 33) ∨ (36 ≤ i ∧ i ≤ 54) ∨ (56 ≤ i ∧ i ≤ 60) ∨ (62 ≤ i ∧ i ≤ 69) ∨ (71 ≤ i ∧ i ≤ 90) ∨ (256 ≤ i ∧ i ≤ 347) ∨ (352 ≤ i ∧ i ≤ 537) ∨ i = 3000
set_option maxHeartbeats 4000000 in
theorem NL_setBound {G : wkG} {F : Nat} {Ln Ln1 : Nat → Nat} {V V1 : mV} {v : Int64} {l1I : Int32} {l2I : Int32} (h : mL_setBound G F Ln l1I l2I V = some (v, Ln1, V1)) : mAv (wL_setBound) V V1 ∧ mAl (wL_setBound) Ln Ln1 := by
  unfold mL_setBound at h
  rcases mBT_some h with ⟨E6, L7, V7, h1, h⟩ | ⟨v1, L2, V2, h1, h⟩
  · have y1 := NX11_setBound h1
    have a1 : mAv (wL_setBound) V V7 := mAv.tr mAv.rf y1.1 (fun i z => by unfold wX11_setBound at z; unfold wL_setBound; omega)
    have b1 : mAl (wL_setBound) Ln L7 := mAl.tr mAl.rf y1.2 (fun i z => by unfold wX11_setBound at z; unfold wL_setBound; omega)
    rcases mIf_some h with ⟨_, h⟩ | ⟨_, h⟩
    · obtain ⟨_, rfl, rfl⟩ := mRA3 h
      exact ⟨a1, b1⟩
    · rcases mIf_some h with ⟨_, h⟩ | ⟨_, h⟩
      · obtain ⟨_, rfl, rfl⟩ := mRA3 h
        exact ⟨a1, b1⟩
      · cases h
  · have y1 := NX11_setBound h1
    have a1 : mAv (wL_setBound) V V2 := mAv.tr mAv.rf y1.1 (fun i z => by unfold wX11_setBound at z; unfold wL_setBound; omega)
    have b1 : mAl (wL_setBound) Ln L2 := mAl.tr mAl.rf y1.2 (fun i z => by unfold wX11_setBound at z; unfold wL_setBound; omega)
    obtain ⟨_, rfl, rfl⟩ := mRA3 h
    exact ⟨a1, b1⟩
def wL_lean (i : Nat) : Prop := i = 0 ∨ (2 ≤ i ∧ i ≤ 8) ∨ i = 11 ∨ (14 ≤ i ∧ i ≤ 15) ∨ (19 ≤ i ∧ i ≤ 25) ∨ (27 ≤ i ∧ i ≤ 33) ∨ (36 ≤ i ∧ i ≤ 54) ∨ (56 ≤ i ∧ i ≤ 60) ∨ (62 ≤ i ∧ i ≤ 69) ∨ (71 ≤ i ∧ i ≤ 90) ∨ (256 ≤ i ∧ i ≤ 347) ∨ (352 ≤ i ∧ i ≤ 537) ∨ i = 3000
set_option maxHeartbeats 4000000 in
theorem NL_lean {G : wkG} {F : Nat} {Ln Ln1 : Nat → Nat} {V V1 : mV} {v : Int64} {l1I : Int32} {l2I : Int32} {l3I : Int32} (h : mL_lean G F Ln l1I l2I l3I V = some (v, Ln1, V1)) : mAv (wL_lean) V V1 ∧ mAl (wL_lean) Ln Ln1 := by
  unfold mL_lean at h
  rcases mBT_some h with ⟨E6, L7, V7, h1, h⟩ | ⟨v1, L2, V2, h1, h⟩
  · have y1 := NX11_lean h1
    have a1 : mAv (wL_lean) V V7 := mAv.tr mAv.rf y1.1 (fun i z => by unfold wX11_lean at z; unfold wL_lean; omega)
    have b1 : mAl (wL_lean) Ln L7 := mAl.tr mAl.rf y1.2 (fun i z => by unfold wX11_lean at z; unfold wL_lean; omega)
    rcases mIf_some h with ⟨_, h⟩ | ⟨_, h⟩
    · obtain ⟨_, rfl, rfl⟩ := mRA3 h
      exact ⟨a1, b1⟩
    · rcases mIf_some h with ⟨_, h⟩ | ⟨_, h⟩
      · obtain ⟨_, rfl, rfl⟩ := mRA3 h
        exact ⟨a1, b1⟩
      · rcases mIf_some h with ⟨_, h⟩ | ⟨_, h⟩
        · obtain ⟨_, rfl, rfl⟩ := mRA3 h
          exact ⟨a1, b1⟩
        · cases h
  · have y1 := NX11_lean h1
    have a1 : mAv (wL_lean) V V2 := mAv.tr mAv.rf y1.1 (fun i z => by unfold wX11_lean at z; unfold wL_lean; omega)
    have b1 : mAl (wL_lean) Ln L2 := mAl.tr mAl.rf y1.2 (fun i z => by unfold wX11_lean at z; unfold wL_lean; omega)
    obtain ⟨_, rfl, rfl⟩ := mRA3 h
    exact ⟨a1, b1⟩
def wL_stand (i : Nat) : Prop := i = 0 ∨ (2 ≤ i ∧ i ≤ 8) ∨ i = 11 ∨ (14 ≤ i ∧ i ≤ 15) ∨ (19 ≤ i ∧ i ≤ 25) ∨ (27 ≤ i ∧ i ≤ 33) ∨ (36 ≤ i ∧ i ≤ 54) ∨ (56 ≤ i ∧ i ≤ 60) ∨ (62 ≤ i ∧ i ≤ 69) ∨ (71 ≤ i ∧ i ≤ 90) ∨ (256 ≤ i ∧ i ≤ 347) ∨ (352 ≤ i ∧ i ≤ 537) ∨ i = 3000
set_option maxHeartbeats 4000000 in
theorem NL_stand {G : wkG} {F : Nat} {Ln Ln1 : Nat → Nat} {V V1 : mV} {v : Int64} {l1I : Int32} (h : mL_stand G F Ln l1I V = some (v, Ln1, V1)) : mAv (wL_stand) V V1 ∧ mAl (wL_stand) Ln Ln1 := by
  unfold mL_stand at h
  rcases mBT_some h with ⟨E6, L7, V7, h1, h⟩ | ⟨v1, L2, V2, h1, h⟩
  · have y1 := NX11_stand h1
    have a1 : mAv (wL_stand) V V7 := mAv.tr mAv.rf y1.1 (fun i z => by unfold wX11_stand at z; unfold wL_stand; omega)
    have b1 : mAl (wL_stand) Ln L7 := mAl.tr mAl.rf y1.2 (fun i z => by unfold wX11_stand at z; unfold wL_stand; omega)
    rcases mIf_some h with ⟨_, h⟩ | ⟨_, h⟩
    · obtain ⟨_, rfl, rfl⟩ := mRA3 h
      exact ⟨a1, b1⟩
    · rcases mIf_some h with ⟨_, h⟩ | ⟨_, h⟩
      · obtain ⟨_, rfl, rfl⟩ := mRA3 h
        exact ⟨a1, b1⟩
      · cases h
  · have y1 := NX11_stand h1
    have a1 : mAv (wL_stand) V V2 := mAv.tr mAv.rf y1.1 (fun i z => by unfold wX11_stand at z; unfold wL_stand; omega)
    have b1 : mAl (wL_stand) Ln L2 := mAl.tr mAl.rf y1.2 (fun i z => by unfold wX11_stand at z; unfold wL_stand; omega)
    obtain ⟨_, rfl, rfl⟩ := mRA3 h
    exact ⟨a1, b1⟩
def wL_carry (i : Nat) : Prop := i = 0 ∨ (2 ≤ i ∧ i ≤ 8) ∨ i = 11 ∨ (14 ≤ i ∧ i ≤ 15) ∨ (18 ≤ i ∧ i ≤ 25) ∨ (27 ≤ i ∧ i ≤ 33) ∨ (36 ≤ i ∧ i ≤ 54) ∨ (56 ≤ i ∧ i ≤ 60) ∨ (62 ≤ i ∧ i ≤ 69) ∨ (71 ≤ i ∧ i ≤ 90) ∨ (256 ≤ i ∧ i ≤ 347) ∨ (352 ≤ i ∧ i ≤ 537) ∨ (544 ≤ i ∧ i ≤ 545) ∨ i = 3000
set_option maxHeartbeats 4000000 in
theorem NL_carry {G : wkG} {F : Nat} {Ln Ln1 : Nat → Nat} {V V1 : mV} {v : Int64} {l1I : Int32} {l2I : Int32} (h : mL_carry G F Ln l1I l2I V = some (v, Ln1, V1)) : mAv (wL_carry) V V1 ∧ mAl (wL_carry) Ln Ln1 := by
  unfold mL_carry at h
  rcases mBT_some h with ⟨E6, L7, V7, h1, h⟩ | ⟨v1, L2, V2, h1, h⟩
  · have y1 := NX11_carry h1
    have a1 : mAv (wL_carry) V V7 := mAv.tr mAv.rf y1.1 (fun i z => by unfold wX11_carry at z; unfold wL_carry; omega)
    have b1 : mAl (wL_carry) Ln L7 := mAl.tr mAl.rf y1.2 (fun i z => by unfold wX11_carry at z; unfold wL_carry; omega)
    rcases mIf_some h with ⟨_, h⟩ | ⟨_, h⟩
    · obtain ⟨_, rfl, rfl⟩ := mRA3 h
      exact ⟨a1, b1⟩
    · rcases mIf_some h with ⟨_, h⟩ | ⟨_, h⟩
      · obtain ⟨_, rfl, rfl⟩ := mRA3 h
        exact ⟨a1, b1⟩
      · rcases mIf_some h with ⟨_, h⟩ | ⟨_, h⟩
        · obtain ⟨_, rfl, rfl⟩ := mRA3 h
          exact ⟨a1, b1⟩
        · rcases mIf_some h with ⟨_, h⟩ | ⟨_, h⟩
          · obtain ⟨_, rfl, rfl⟩ := mRA3 h
            exact ⟨a1, b1⟩
          · cases h
  · have y1 := NX11_carry h1
    have a1 : mAv (wL_carry) V V2 := mAv.tr mAv.rf y1.1 (fun i z => by unfold wX11_carry at z; unfold wL_carry; omega)
    have b1 : mAl (wL_carry) Ln L2 := mAl.tr mAl.rf y1.2 (fun i z => by unfold wX11_carry at z; unfold wL_carry; omega)
    obtain ⟨_, rfl, rfl⟩ := mRA3 h
    exact ⟨a1, b1⟩
end
