/-! WHAT EACH METHOD LEAVES ALONE: L_boundOf, L_answer, L_number, L_length, L_rowSum, L_borrow, L_bring, L_check, L_settle, L_checksum, L_isSound, L_isOne, L_areOne, L_isCarried. -/
section
def wL_boundOf (i : Nat) : Prop := (2 ≤ i ∧ i ≤ 8) ∨ i = 11 ∨ (19 ≤ i ∧ i ≤ 25) ∨ (27 ≤ i ∧ i ≤ 33) ∨ (36 ≤ i ∧ i ≤ 54) ∨ (56 ≤ i ∧ i ≤ 60) ∨ (62 ≤ i ∧ i ≤ 69) ∨ (71 ≤ i ∧ i ≤ 90) ∨ (256 ≤ i ∧ i ≤ 347) ∨ i = 3000
set_option maxHeartbeats 4000000 in
theorem NL_boundOf {G : wkG} {F : Nat} {Ln Ln1 : Nat → Nat} {V V1 : mV} {v : Int64} {l1I : Int32} (h : mL_boundOf G F Ln l1I V = some (v, Ln1, V1)) : mAv (wL_boundOf) V V1 ∧ mAl (wL_boundOf) Ln Ln1 := by
  unfold mL_boundOf at h
  rcases mBT_some h with ⟨E6, L7, V7, h1, h⟩ | ⟨v1, L2, V2, h1, h⟩
  · have y1 := NX11_boundOf h1
    have a1 : mAv (wL_boundOf) V V7 := mAv.tr mAv.rf y1.1 (fun i z => by unfold wX11_boundOf at z; unfold wL_boundOf; omega)
    have b1 : mAl (wL_boundOf) Ln L7 := mAl.tr mAl.rf y1.2 (fun i z => by unfold wX11_boundOf at z; unfold wL_boundOf; omega)
    rcases mIf_some h with ⟨_, h⟩ | ⟨_, h⟩
    · obtain ⟨_, rfl, rfl⟩ := mRA3 h
      exact ⟨a1, b1⟩
    · cases h
  · have y1 := NX11_boundOf h1
    have a1 : mAv (wL_boundOf) V V2 := mAv.tr mAv.rf y1.1 (fun i z => by unfold wX11_boundOf at z; unfold wL_boundOf; omega)
    have b1 : mAl (wL_boundOf) Ln L2 := mAl.tr mAl.rf y1.2 (fun i z => by unfold wX11_boundOf at z; unfold wL_boundOf; omega)
    obtain ⟨_, rfl, rfl⟩ := mRA3 h
    exact ⟨a1, b1⟩
def wL_answer (i : Nat) : Prop := (2 ≤ i ∧ i ≤ 8) ∨ i = 11 ∨ (19 ≤ i ∧ i ≤ 25) ∨ (27 ≤ i ∧ i ≤ 33) ∨ (36 ≤ i ∧ i ≤ 54) ∨ (56 ≤ i ∧ i ≤ 60) ∨ (62 ≤ i ∧ i ≤ 69) ∨ (71 ≤ i ∧ i ≤ 90) ∨ (256 ≤ i ∧ i ≤ 347) ∨ i = 3000
set_option maxHeartbeats 4000000 in
theorem NL_answer {G : wkG} {F : Nat} {Ln Ln1 : Nat → Nat} {V V1 : mV} {v : Int64} {l1I : Int32} (h : mL_answer G F Ln l1I V = some (v, Ln1, V1)) : mAv (wL_answer) V V1 ∧ mAl (wL_answer) Ln Ln1 := by
  unfold mL_answer at h
  rcases mBT_some h with ⟨E6, L7, V7, h1, h⟩ | ⟨v1, L2, V2, h1, h⟩
  · have y1 := NX11_answer h1
    have a1 : mAv (wL_answer) V V7 := mAv.tr mAv.rf y1.1 (fun i z => by unfold wX11_answer at z; unfold wL_answer; omega)
    have b1 : mAl (wL_answer) Ln L7 := mAl.tr mAl.rf y1.2 (fun i z => by unfold wX11_answer at z; unfold wL_answer; omega)
    rcases mIf_some h with ⟨_, h⟩ | ⟨_, h⟩
    · obtain ⟨_, rfl, rfl⟩ := mRA3 h
      exact ⟨a1, b1⟩
    · cases h
  · have y1 := NX11_answer h1
    have a1 : mAv (wL_answer) V V2 := mAv.tr mAv.rf y1.1 (fun i z => by unfold wX11_answer at z; unfold wL_answer; omega)
    have b1 : mAl (wL_answer) Ln L2 := mAl.tr mAl.rf y1.2 (fun i z => by unfold wX11_answer at z; unfold wL_answer; omega)
    obtain ⟨_, rfl, rfl⟩ := mRA3 h
    exact ⟨a1, b1⟩
def wL_number (i : Nat) : Prop := (2 ≤ i ∧ i ≤ 8) ∨ i = 11 ∨ (19 ≤ i ∧ i ≤ 25) ∨ (27 ≤ i ∧ i ≤ 33) ∨ (36 ≤ i ∧ i ≤ 54) ∨ (56 ≤ i ∧ i ≤ 60) ∨ (62 ≤ i ∧ i ≤ 69) ∨ (71 ≤ i ∧ i ≤ 90) ∨ (256 ≤ i ∧ i ≤ 347) ∨ i = 3000
set_option maxHeartbeats 4000000 in
theorem NL_number {G : wkG} {F : Nat} {Ln Ln1 : Nat → Nat} {V V1 : mV} {v : Int64} {l1I : Int32} (h : mL_number G F Ln l1I V = some (v, Ln1, V1)) : mAv (wL_number) V V1 ∧ mAl (wL_number) Ln Ln1 := by
  unfold mL_number at h
  rcases mBT_some h with ⟨E6, L7, V7, h1, h⟩ | ⟨v1, L2, V2, h1, h⟩
  · have y1 := NX11_number h1
    have a1 : mAv (wL_number) V V7 := mAv.tr mAv.rf y1.1 (fun i z => by unfold wX11_number at z; unfold wL_number; omega)
    have b1 : mAl (wL_number) Ln L7 := mAl.tr mAl.rf y1.2 (fun i z => by unfold wX11_number at z; unfold wL_number; omega)
    rcases mIf_some h with ⟨_, h⟩ | ⟨_, h⟩
    · obtain ⟨_, rfl, rfl⟩ := mRA3 h
      exact ⟨a1, b1⟩
    · cases h
  · have y1 := NX11_number h1
    have a1 : mAv (wL_number) V V2 := mAv.tr mAv.rf y1.1 (fun i z => by unfold wX11_number at z; unfold wL_number; omega)
    have b1 : mAl (wL_number) Ln L2 := mAl.tr mAl.rf y1.2 (fun i z => by unfold wX11_number at z; unfold wL_number; omega)
    obtain ⟨_, rfl, rfl⟩ := mRA3 h
    exact ⟨a1, b1⟩
def wL_length (i : Nat) : Prop := (2 ≤ i ∧ i ≤ 8) ∨ i = 11 ∨ (19 ≤ i ∧ i ≤ 25) ∨ (27 ≤ i ∧ i ≤ 33) ∨ (36 ≤ i ∧ i ≤ 54) ∨ (56 ≤ i ∧ i ≤ 60) ∨ (62 ≤ i ∧ i ≤ 69) ∨ (71 ≤ i ∧ i ≤ 90) ∨ (256 ≤ i ∧ i ≤ 347) ∨ i = 3000
set_option maxHeartbeats 4000000 in
theorem NL_length {G : wkG} {F : Nat} {Ln Ln1 : Nat → Nat} {V V1 : mV} {v : Int64} {l1I : Int32} (h : mL_length G F Ln l1I V = some (v, Ln1, V1)) : mAv (wL_length) V V1 ∧ mAl (wL_length) Ln Ln1 := by
  unfold mL_length at h
  rcases mBT_some h with ⟨E6, L7, V7, h1, h⟩ | ⟨v1, L2, V2, h1, h⟩
  · have y1 := NX11_length h1
    have a1 : mAv (wL_length) V V7 := mAv.tr mAv.rf y1.1 (fun i z => by unfold wX11_length at z; unfold wL_length; omega)
    have b1 : mAl (wL_length) Ln L7 := mAl.tr mAl.rf y1.2 (fun i z => by unfold wX11_length at z; unfold wL_length; omega)
    rcases mIf_some h with ⟨_, h⟩ | ⟨_, h⟩
    · obtain ⟨_, rfl, rfl⟩ := mRA3 h
      exact ⟨a1, b1⟩
    · cases h
  · have y1 := NX11_length h1
    have a1 : mAv (wL_length) V V2 := mAv.tr mAv.rf y1.1 (fun i z => by unfold wX11_length at z; unfold wL_length; omega)
    have b1 : mAl (wL_length) Ln L2 := mAl.tr mAl.rf y1.2 (fun i z => by unfold wX11_length at z; unfold wL_length; omega)
    obtain ⟨_, rfl, rfl⟩ := mRA3 h
    exact ⟨a1, b1⟩
def wL_rowSum (i : Nat) : Prop := (2 ≤ i ∧ i ≤ 8) ∨ i = 11 ∨ (19 ≤ i ∧ i ≤ 25) ∨ (27 ≤ i ∧ i ≤ 33) ∨ (36 ≤ i ∧ i ≤ 54) ∨ (56 ≤ i ∧ i ≤ 60) ∨ (62 ≤ i ∧ i ≤ 69) ∨ (71 ≤ i ∧ i ≤ 90) ∨ (256 ≤ i ∧ i ≤ 347) ∨ i = 3000
set_option maxHeartbeats 4000000 in
theorem NL_rowSum {G : wkG} {F : Nat} {Ln Ln1 : Nat → Nat} {V V1 : mV} {v : Int64} {l1I : Int32} (h : mL_rowSum G F Ln l1I V = some (v, Ln1, V1)) : mAv (wL_rowSum) V V1 ∧ mAl (wL_rowSum) Ln Ln1 := by
  unfold mL_rowSum at h
  rcases mBT_some h with ⟨E6, L7, V7, h1, h⟩ | ⟨v1, L2, V2, h1, h⟩
  · have y1 := NX11_rowSum h1
    have a1 : mAv (wL_rowSum) V V7 := mAv.tr mAv.rf y1.1 (fun i z => by unfold wX11_rowSum at z; unfold wL_rowSum; omega)
    have b1 : mAl (wL_rowSum) Ln L7 := mAl.tr mAl.rf y1.2 (fun i z => by unfold wX11_rowSum at z; unfold wL_rowSum; omega)
    rcases mIf_some h with ⟨_, h⟩ | ⟨_, h⟩
    · obtain ⟨_, rfl, rfl⟩ := mRA3 h
      exact ⟨a1, b1⟩
    · cases h
  · have y1 := NX11_rowSum h1
    have a1 : mAv (wL_rowSum) V V2 := mAv.tr mAv.rf y1.1 (fun i z => by unfold wX11_rowSum at z; unfold wL_rowSum; omega)
    have b1 : mAl (wL_rowSum) Ln L2 := mAl.tr mAl.rf y1.2 (fun i z => by unfold wX11_rowSum at z; unfold wL_rowSum; omega)
    obtain ⟨_, rfl, rfl⟩ := mRA3 h
    exact ⟨a1, b1⟩
def wL_borrow (i : Nat) : Prop := (2 ≤ i ∧ i ≤ 8) ∨ i = 11 ∨ (19 ≤ i ∧ i ≤ 25) ∨ (27 ≤ i ∧ i ≤ 33) ∨ (36 ≤ i ∧ i ≤ 54) ∨ (56 ≤ i ∧ i ≤ 60) ∨ (62 ≤ i ∧ i ≤ 69) ∨ (71 ≤ i ∧ i ≤ 90) ∨ (256 ≤ i ∧ i ≤ 347) ∨ (2048 ≤ i ∧ i ≤ 2049) ∨ i = 3000
set_option maxHeartbeats 4000000 in
theorem NL_borrow {G : wkG} {F : Nat} {Ln Ln1 : Nat → Nat} {V V1 : mV} {v : Int64} {l1I : Int32} (h : mL_borrow G F Ln l1I V = some (v, Ln1, V1)) : mAv (wL_borrow) V V1 ∧ mAl (wL_borrow) Ln Ln1 := by
  unfold mL_borrow at h
  rcases mBT_some h with ⟨E6, L7, V7, h1, h⟩ | ⟨v1, L2, V2, h1, h⟩
  · have y1 := NX11_borrow h1
    have a1 : mAv (wL_borrow) V V7 := mAv.tr mAv.rf y1.1 (fun i z => by unfold wX11_borrow at z; unfold wL_borrow; omega)
    have b1 : mAl (wL_borrow) Ln L7 := mAl.tr mAl.rf y1.2 (fun i z => by unfold wX11_borrow at z; unfold wL_borrow; omega)
    rcases mIf_some h with ⟨_, h⟩ | ⟨_, h⟩
    · obtain ⟨_, rfl, rfl⟩ := mRA3 h
      exact ⟨a1, b1⟩
    · rcases mIf_some h with ⟨_, h⟩ | ⟨_, h⟩
      · obtain ⟨_, rfl, rfl⟩ := mRA3 h
        exact ⟨a1, b1⟩
      · cases h
  · have y1 := NX11_borrow h1
    have a1 : mAv (wL_borrow) V V2 := mAv.tr mAv.rf y1.1 (fun i z => by unfold wX11_borrow at z; unfold wL_borrow; omega)
    have b1 : mAl (wL_borrow) Ln L2 := mAl.tr mAl.rf y1.2 (fun i z => by unfold wX11_borrow at z; unfold wL_borrow; omega)
    obtain ⟨_, rfl, rfl⟩ := mRA3 h
    exact ⟨a1, b1⟩
def wL_bring (i : Nat) : Prop := (2 ≤ i ∧ i ≤ 8) ∨ i = 11 ∨ (18 ≤ i ∧ i ≤ 25) ∨ (27 ≤ i ∧ i ≤ 33) ∨ (36 ≤ i ∧ i ≤ 54) ∨ (56 ≤ i ∧ i ≤ 60) ∨ (62 ≤ i ∧ i ≤ 69) ∨ (71 ≤ i ∧ i ≤ 90) ∨ (256 ≤ i ∧ i ≤ 347) ∨ (544 ≤ i ∧ i ≤ 545) ∨ (2048 ≤ i ∧ i ≤ 2049) ∨ i = 3000
set_option maxHeartbeats 4000000 in
theorem NL_bring {G : wkG} {F : Nat} {Ln Ln1 : Nat → Nat} {V V1 : mV} {v : Int64} {l1I : Int32} (h : mL_bring G F Ln l1I V = some (v, Ln1, V1)) : mAv (wL_bring) V V1 ∧ mAl (wL_bring) Ln Ln1 := by
  unfold mL_bring at h
  rcases mBT_some h with ⟨E6, L7, V7, h1, h⟩ | ⟨v1, L2, V2, h1, h⟩
  · have y1 := NX11_bring h1
    have a1 : mAv (wL_bring) V V7 := mAv.tr mAv.rf y1.1 (fun i z => by unfold wX11_bring at z; unfold wL_bring; omega)
    have b1 : mAl (wL_bring) Ln L7 := mAl.tr mAl.rf y1.2 (fun i z => by unfold wX11_bring at z; unfold wL_bring; omega)
    rcases mIf_some h with ⟨_, h⟩ | ⟨_, h⟩
    · obtain ⟨_, rfl, rfl⟩ := mRA3 h
      exact ⟨a1, b1⟩
    · rcases mIf_some h with ⟨_, h⟩ | ⟨_, h⟩
      · obtain ⟨_, rfl, rfl⟩ := mRA3 h
        exact ⟨a1, b1⟩
      · cases h
  · have y1 := NX11_bring h1
    have a1 : mAv (wL_bring) V V2 := mAv.tr mAv.rf y1.1 (fun i z => by unfold wX11_bring at z; unfold wL_bring; omega)
    have b1 : mAl (wL_bring) Ln L2 := mAl.tr mAl.rf y1.2 (fun i z => by unfold wX11_bring at z; unfold wL_bring; omega)
    obtain ⟨_, rfl, rfl⟩ := mRA3 h
    exact ⟨a1, b1⟩
def wL_check (i : Nat) : Prop := (2 ≤ i ∧ i ≤ 8) ∨ i = 11 ∨ (19 ≤ i ∧ i ≤ 34) ∨ (36 ≤ i ∧ i ≤ 54) ∨ (56 ≤ i ∧ i ≤ 60) ∨ (62 ≤ i ∧ i ≤ 69) ∨ (71 ≤ i ∧ i ≤ 90) ∨ (256 ≤ i ∧ i ≤ 347) ∨ i = 3000
set_option maxHeartbeats 4000000 in
theorem NL_check {G : wkG} {F : Nat} {Ln Ln1 : Nat → Nat} {V V1 : mV} {v : Int64} {l1I : Int32} {l2I : Int32} (h : mL_check G F Ln l1I l2I V = some (v, Ln1, V1)) : mAv (wL_check) V V1 ∧ mAl (wL_check) Ln Ln1 := by
  unfold mL_check at h
  rcases mBT_some h with ⟨E6, L7, V7, h1, h⟩ | ⟨v1, L2, V2, h1, h⟩
  · have y1 := NX11_check h1
    have a1 : mAv (wL_check) V V7 := mAv.tr mAv.rf y1.1 (fun i z => by unfold wX11_check at z; unfold wL_check; omega)
    have b1 : mAl (wL_check) Ln L7 := mAl.tr mAl.rf y1.2 (fun i z => by unfold wX11_check at z; unfold wL_check; omega)
    rcases mIf_some h with ⟨_, h⟩ | ⟨_, h⟩
    · obtain ⟨_, rfl, rfl⟩ := mRA3 h
      exact ⟨a1, b1⟩
    · cases h
  · have y1 := NX11_check h1
    have a1 : mAv (wL_check) V V2 := mAv.tr mAv.rf y1.1 (fun i z => by unfold wX11_check at z; unfold wL_check; omega)
    have b1 : mAl (wL_check) Ln L2 := mAl.tr mAl.rf y1.2 (fun i z => by unfold wX11_check at z; unfold wL_check; omega)
    obtain ⟨_, rfl, rfl⟩ := mRA3 h
    exact ⟨a1, b1⟩
def wL_settle (i : Nat) : Prop := i = 0 ∨ (2 ≤ i ∧ i ≤ 9) ∨ i = 11 ∨ i = 17 ∨ (19 ≤ i ∧ i ≤ 34) ∨ (36 ≤ i ∧ i ≤ 54) ∨ (56 ≤ i ∧ i ≤ 60) ∨ (62 ≤ i ∧ i ≤ 69) ∨ (71 ≤ i ∧ i ≤ 90) ∨ (256 ≤ i ∧ i ≤ 349) ∨ i = 3000
set_option maxHeartbeats 4000000 in
theorem NL_settle {G : wkG} {F : Nat} {Ln Ln1 : Nat → Nat} {V V1 : mV} {v : Int64} (h : mL_settle G F Ln V = some (v, Ln1, V1)) : mAv (wL_settle) V V1 ∧ mAl (wL_settle) Ln Ln1 := by
  unfold mL_settle at h
  rcases mBT_some h with ⟨E6, L7, V7, h1, h⟩ | ⟨v1, L2, V2, h1, h⟩
  · have y1 := NX11_settle h1
    have a1 : mAv (wL_settle) V V7 := mAv.tr mAv.rf y1.1 (fun i z => by unfold wX11_settle at z; unfold wL_settle; omega)
    have b1 : mAl (wL_settle) Ln L7 := mAl.tr mAl.rf y1.2 (fun i z => by unfold wX11_settle at z; unfold wL_settle; omega)
    cases h
  · have y1 := NX11_settle h1
    have a1 : mAv (wL_settle) V V2 := mAv.tr mAv.rf y1.1 (fun i z => by unfold wX11_settle at z; unfold wL_settle; omega)
    have b1 : mAl (wL_settle) Ln L2 := mAl.tr mAl.rf y1.2 (fun i z => by unfold wX11_settle at z; unfold wL_settle; omega)
    obtain ⟨_, rfl, rfl⟩ := mRA3 h
    exact ⟨a1, b1⟩
def wL_checksum (i : Nat) : Prop := (2 ≤ i ∧ i ≤ 8) ∨ i = 11 ∨ (19 ≤ i ∧ i ≤ 25) ∨ (27 ≤ i ∧ i ≤ 33) ∨ (36 ≤ i ∧ i ≤ 54) ∨ (56 ≤ i ∧ i ≤ 60) ∨ (62 ≤ i ∧ i ≤ 69) ∨ (71 ≤ i ∧ i ≤ 90) ∨ (256 ≤ i ∧ i ≤ 347) ∨ i = 3000
set_option maxHeartbeats 4000000 in
theorem NL_checksum {G : wkG} {F : Nat} {Ln Ln1 : Nat → Nat} {V V1 : mV} {v : Int64} (h : mL_checksum G F Ln V = some (v, Ln1, V1)) : mAv (wL_checksum) V V1 ∧ mAl (wL_checksum) Ln Ln1 := by
  unfold mL_checksum at h
  rcases mBT_some h with ⟨E6, L7, V7, h1, h⟩ | ⟨v1, L2, V2, h1, h⟩
  · have y1 := NX11_checksum h1
    have a1 : mAv (wL_checksum) V V7 := mAv.tr mAv.rf y1.1 (fun i z => by unfold wX11_checksum at z; unfold wL_checksum; omega)
    have b1 : mAl (wL_checksum) Ln L7 := mAl.tr mAl.rf y1.2 (fun i z => by unfold wX11_checksum at z; unfold wL_checksum; omega)
    cases h
  · have y1 := NX11_checksum h1
    have a1 : mAv (wL_checksum) V V2 := mAv.tr mAv.rf y1.1 (fun i z => by unfold wX11_checksum at z; unfold wL_checksum; omega)
    have b1 : mAl (wL_checksum) Ln L2 := mAl.tr mAl.rf y1.2 (fun i z => by unfold wX11_checksum at z; unfold wL_checksum; omega)
    obtain ⟨_, rfl, rfl⟩ := mRA3 h
    exact ⟨a1, b1⟩
def wL_isSound (i : Nat) : Prop := (2 ≤ i ∧ i ≤ 8) ∨ i = 11 ∨ (18 ≤ i ∧ i ≤ 34) ∨ (36 ≤ i ∧ i ≤ 54) ∨ (56 ≤ i ∧ i ≤ 60) ∨ (62 ≤ i ∧ i ≤ 69) ∨ (71 ≤ i ∧ i ≤ 90) ∨ (256 ≤ i ∧ i ≤ 347) ∨ (544 ≤ i ∧ i ≤ 545) ∨ i = 3000
set_option maxHeartbeats 4000000 in
theorem NL_isSound {G : wkG} {F : Nat} {Ln Ln1 : Nat → Nat} {V V1 : mV} {v : Int64} (h : mL_isSound G F Ln V = some (v, Ln1, V1)) : mAv (wL_isSound) V V1 ∧ mAl (wL_isSound) Ln Ln1 := by
  unfold mL_isSound at h
  rcases mBT_some h with ⟨E6, L7, V7, h1, h⟩ | ⟨v1, L2, V2, h1, h⟩
  · have y1 := NX11_isSound h1
    have a1 : mAv (wL_isSound) V V7 := mAv.tr mAv.rf y1.1 (fun i z => by unfold wX11_isSound at z; unfold wL_isSound; omega)
    have b1 : mAl (wL_isSound) Ln L7 := mAl.tr mAl.rf y1.2 (fun i z => by unfold wX11_isSound at z; unfold wL_isSound; omega)
    cases h
  · have y1 := NX11_isSound h1
    have a1 : mAv (wL_isSound) V V2 := mAv.tr mAv.rf y1.1 (fun i z => by unfold wX11_isSound at z; unfold wL_isSound; omega)
    have b1 : mAl (wL_isSound) Ln L2 := mAl.tr mAl.rf y1.2 (fun i z => by unfold wX11_isSound at z; unfold wL_isSound; omega)
    rcases mIf_some h with ⟨_, h⟩ | ⟨_, h⟩
    · obtain ⟨_, rfl, rfl⟩ := mRA3 h
      exact ⟨a1, b1⟩
    · obtain ⟨_, rfl, rfl⟩ := mRA3 h
      exact ⟨a1, b1⟩
def wL_isOne (i : Nat) : Prop := (2 ≤ i ∧ i ≤ 8) ∨ i = 11 ∨ (19 ≤ i ∧ i ≤ 34) ∨ (36 ≤ i ∧ i ≤ 54) ∨ (56 ≤ i ∧ i ≤ 60) ∨ (62 ≤ i ∧ i ≤ 69) ∨ (71 ≤ i ∧ i ≤ 90) ∨ (256 ≤ i ∧ i ≤ 347) ∨ (2048 ≤ i ∧ i ≤ 2049) ∨ i = 3000
def wL_isOne_0 (i : Nat) : Prop := (2 ≤ i ∧ i ≤ 8) ∨ i = 11 ∨ (19 ≤ i ∧ i ≤ 34) ∨ (36 ≤ i ∧ i ≤ 54) ∨ (56 ≤ i ∧ i ≤ 60) ∨ (62 ≤ i ∧ i ≤ 69) ∨ (71 ≤ i ∧ i ≤ 90) ∨ (256 ≤ i ∧ i ≤ 347) ∨ (2048 ≤ i ∧ i ≤ 2049) ∨ i = 3000
def wL_isOne_1 (i : Nat) : Prop := (2 ≤ i ∧ i ≤ 8) ∨ i = 11 ∨ (19 ≤ i ∧ i ≤ 34) ∨ (36 ≤ i ∧ i ≤ 54) ∨ (56 ≤ i ∧ i ≤ 60) ∨ (62 ≤ i ∧ i ≤ 69) ∨ (71 ≤ i ∧ i ≤ 90) ∨ (256 ≤ i ∧ i ≤ 347) ∨ (2048 ≤ i ∧ i ≤ 2049) ∨ i = 3000
def wL_isOne_2 (i : Nat) : Prop := (2 ≤ i ∧ i ≤ 8) ∨ i = 11 ∨ (19 ≤ i ∧ i ≤ 34) ∨ (36 ≤ i ∧ i ≤ 54) ∨ (56 ≤ i ∧ i ≤ 60) ∨ (62 ≤ i ∧ i ≤ 69) ∨ (71 ≤ i ∧ i ≤ 90) ∨ (256 ≤ i ∧ i ≤ 347) ∨ (2048 ≤ i ∧ i ≤ 2049) ∨ i = 3000
def wL_isOne_3 (i : Nat) : Prop := (2 ≤ i ∧ i ≤ 8) ∨ i = 11 ∨ (19 ≤ i ∧ i ≤ 34) ∨ (36 ≤ i ∧ i ≤ 54) ∨ (56 ≤ i ∧ i ≤ 60) ∨ (62 ≤ i ∧ i ≤ 69) ∨ (71 ≤ i ∧ i ≤ 90) ∨ (256 ≤ i ∧ i ≤ 347) ∨ (2048 ≤ i ∧ i ≤ 2049) ∨ i = 3000
set_option maxHeartbeats 4000000 in
theorem NL_isOne_go {G : wkG} {F : Nat} {v : Int32} {Ln1 : Nat → Nat} {V1 : mV} : ∀ k' : Nat, (∀ (l1I : Int32) (l3I : Int32) (l6I : Int32) (Ln : Nat → Nat) (V : mV), mL_isOne_go G F k' 0 Ln 0 l1I l3I l6I 0 0 V = some (v, Ln1, V1) → mAv (wL_isOne_0) V V1 ∧ mAl (wL_isOne_0) Ln Ln1) ∧ (∀ (l1I : Int32) (l3I : Int32) (l6I : Int32) (l7J : Int64) (l9I : Int32) (Ln : Nat → Nat) (V : mV), mL_isOne_go G F k' 1 Ln 0 l1I l3I l6I l7J l9I V = some (v, Ln1, V1) → mAv (wL_isOne_1) V V1 ∧ mAl (wL_isOne_1) Ln Ln1) ∧ (∀ (l1I : Int32) (l3I : Int32) (l6I : Int32) (l7J : Int64) (l9I : Int32) (l10I : Int32) (Ln : Nat → Nat) (V : mV), mL_isOne_go G F k' 2 Ln l10I l1I l3I l6I l7J l9I V = some (v, Ln1, V1) → mAv (wL_isOne_2) V V1 ∧ mAl (wL_isOne_2) Ln Ln1) ∧ (∀ (l1I : Int32) (l3I : Int32) (l6I : Int32) (l9I : Int32) (Ln : Nat → Nat) (V : mV), mL_isOne_go G F k' 3 Ln 0 l1I l3I l6I 0 l9I V = some (v, Ln1, V1) → mAv (wL_isOne_3) V V1 ∧ mAl (wL_isOne_3) Ln Ln1) := by
  intro k'
  induction k' with
  | zero => exact ⟨(fun _ _ _ _ _ h => by cases h), (fun _ _ _ _ _ _ _ h => by cases h), (fun _ _ _ _ _ _ _ _ h => by cases h), (fun _ _ _ _ _ _ h => by cases h)⟩
  | succ k' ih =>
    refine ⟨?_, ?_, ?_, ?_⟩
    · intro l1I l3I l6I Ln V h
      rw [mL_isOne_go, if_pos rfl] at h
      unfold mL_isOne_b0 at h
      obtain ⟨v1, L2, V2, h1, h⟩ := mBA_some h
      have y1 := NL_borrow h1
      have a1 : mAv (wL_isOne_0) V V2 := mAv.tr mAv.rf y1.1 (fun i z => by unfold wL_borrow at z; unfold wL_isOne_0; omega)
      have b1 : mAl (wL_isOne_0) Ln L2 := mAl.tr mAl.rf y1.2 (fun i z => by unfold wL_borrow at z; unfold wL_isOne_0; omega)
      rcases mIf_some h with ⟨_, h⟩ | ⟨_, h⟩
      · obtain ⟨v7, L8, V8, h2, h⟩ := mBA_some h
        have y2 := NL_length h2
        have a2 : mAv (wL_isOne_0) V V8 := mAv.tr a1 y2.1 (fun i z => by unfold wL_length at z; unfold wL_isOne_0; omega)
        have b2 : mAl (wL_isOne_0) Ln L8 := mAl.tr b1 y2.2 (fun i z => by unfold wL_length at z; unfold wL_isOne_0; omega)
        rcases mIf_some h with ⟨_, h⟩ | ⟨_, h⟩
        · obtain ⟨v13, L14, V14, h3, h⟩ := mBA_some h
          have y3 := NL_check h3
          have a3 : mAv (wL_isOne_0) V V14 := mAv.tr a2 y3.1 (fun i z => by unfold wL_check at z; unfold wL_isOne_0; omega)
          have b3 : mAl (wL_isOne_0) Ln L14 := mAl.tr b2 y3.2 (fun i z => by unfold wL_check at z; unfold wL_isOne_0; omega)
          rcases mIf_some h with ⟨_, h⟩ | ⟨_, h⟩
          · rcases mIf_some h with ⟨_, h⟩ | ⟨_, h⟩
            · obtain ⟨v26, L27, V27, h4, h⟩ := mBA_some h
              have y4 := NL_check h4
              have a4 : mAv (wL_isOne_0) V V27 := mAv.tr a3 y4.1 (fun i z => by unfold wL_check at z; unfold wL_isOne_0; omega)
              have b4 : mAl (wL_isOne_0) Ln L27 := mAl.tr b3 y4.2 (fun i z => by unfold wL_check at z; unfold wL_isOne_0; omega)
              rcases mIf_some h with ⟨_, h⟩ | ⟨_, h⟩
              · have y := ih.2.1 _ _ _ _ _ _ _ h
                exact ⟨mAv.tr a4 y.1 (fun i z => by unfold wL_isOne_1 at z; unfold wL_isOne_0; omega), mAl.tr b4 y.2 (fun i z => by unfold wL_isOne_1 at z; unfold wL_isOne_0; omega)⟩
              · obtain ⟨_, rfl, rfl⟩ := mRA3 h
                exact ⟨a4, b4⟩
            · obtain ⟨v20, L21, V21, h5, h⟩ := mBA_some h
              have y5 := NL_check h5
              have a5 : mAv (wL_isOne_0) V V21 := mAv.tr a3 y5.1 (fun i z => by unfold wL_check at z; unfold wL_isOne_0; omega)
              have b5 : mAl (wL_isOne_0) Ln L21 := mAl.tr b3 y5.2 (fun i z => by unfold wL_check at z; unfold wL_isOne_0; omega)
              rcases mIf_some h with ⟨_, h⟩ | ⟨_, h⟩
              · have y := ih.2.1 _ _ _ _ _ _ _ h
                exact ⟨mAv.tr a5 y.1 (fun i z => by unfold wL_isOne_1 at z; unfold wL_isOne_0; omega), mAl.tr b5 y.2 (fun i z => by unfold wL_isOne_1 at z; unfold wL_isOne_0; omega)⟩
              · obtain ⟨_, rfl, rfl⟩ := mRA3 h
                exact ⟨a5, b5⟩
          · obtain ⟨_, rfl, rfl⟩ := mRA3 h
            exact ⟨a3, b3⟩
        · obtain ⟨_, rfl, rfl⟩ := mRA3 h
          exact ⟨a2, b2⟩
      · obtain ⟨v32, L33, V33, h6, h⟩ := mBA_some h
        have y6 := NL_length h6
        have a6 : mAv (wL_isOne_0) V V33 := mAv.tr a1 y6.1 (fun i z => by unfold wL_length at z; unfold wL_isOne_0; omega)
        have b6 : mAl (wL_isOne_0) Ln L33 := mAl.tr b1 y6.2 (fun i z => by unfold wL_length at z; unfold wL_isOne_0; omega)
        rcases mIf_some h with ⟨_, h⟩ | ⟨_, h⟩
        · obtain ⟨_, rfl, rfl⟩ := mRA3 h
          exact ⟨a6, b6⟩
        · obtain ⟨_, rfl, rfl⟩ := mRA3 h
          exact ⟨a6, b6⟩
    · intro l1I l3I l6I l7J l9I Ln V h
      rw [mL_isOne_go, if_neg (by decide), if_pos rfl] at h
      unfold mL_isOne_b1 at h
      rcases mIf_some h with ⟨_, h⟩ | ⟨_, h⟩
      · obtain ⟨v39, V40, h7, h⟩ := mBW_some h
        have a7 : mAv (wL_isOne_1) V V40 := mAv.tr mAv.rf (NL_wipe h7) (fun i z => by unfold wL_wipe at z; unfold wL_isOne_1; omega)
        have y := ih.2.2.2 _ _ _ _ _ _ h
        exact ⟨mAv.tr a7 y.1 (fun i z => by unfold wL_isOne_3 at z; unfold wL_isOne_1; omega), mAl.tr mAl.rf y.2 (fun i z => by unfold wL_isOne_3 at z; unfold wL_isOne_1; omega)⟩
      · obtain ⟨v44, _, h⟩ := mBN_some h
        obtain ⟨x49, _, h⟩ := mLt_some h
        rcases mIf_some h with ⟨_, h⟩ | ⟨_, h⟩
        · have y := ih.2.2.1 _ _ _ _ _ _ _ _ h
          exact ⟨mAv.tr mAv.rf y.1 (fun i z => by unfold wL_isOne_2 at z; unfold wL_isOne_1; omega), mAl.tr mAl.rf y.2 (fun i z => by unfold wL_isOne_2 at z; unfold wL_isOne_1; omega)⟩
        · rcases mIf_some h with ⟨_, h⟩ | ⟨_, h⟩
          · have y := ih.2.2.1 _ _ _ _ _ _ _ _ h
            exact ⟨mAv.tr mAv.rf y.1 (fun i z => by unfold wL_isOne_2 at z; unfold wL_isOne_1; omega), mAl.tr mAl.rf y.2 (fun i z => by unfold wL_isOne_2 at z; unfold wL_isOne_1; omega)⟩
          · obtain ⟨v52, _, h⟩ := mBN_some h
            obtain ⟨v57, L58, V58, h8, h⟩ := mBA_some h
            have y8 := NL_alter h8
            have a8 : mAv (wL_isOne_1) V V58 := mAv.tr mAv.rf y8.1 (fun i z => by unfold wL_alter at z; unfold wL_isOne_1; omega)
            have b8 : mAl (wL_isOne_1) Ln L58 := mAl.tr mAl.rf y8.2 (fun i z => by unfold wL_alter at z; unfold wL_isOne_1; omega)
            rcases mIf_some h with ⟨_, h⟩ | ⟨_, h⟩
            · obtain ⟨v70, L71, V71, h9, h⟩ := mBA_some h
              have y9 := NL_check h9
              have a9 : mAv (wL_isOne_1) V V71 := mAv.tr a8 y9.1 (fun i z => by unfold wL_check at z; unfold wL_isOne_1; omega)
              have b9 : mAl (wL_isOne_1) Ln L71 := mAl.tr b8 y9.2 (fun i z => by unfold wL_check at z; unfold wL_isOne_1; omega)
              rcases mIf_some h with ⟨_, h⟩ | ⟨_, h⟩
              · obtain ⟨x76, _, h⟩ := mLt_some h
                have y := ih.2.1 _ _ _ _ _ _ _ h
                exact ⟨mAv.tr a9 y.1 (fun i z => by unfold wL_isOne_1 at z; unfold wL_isOne_1; omega), mAl.tr b9 y.2 (fun i z => by unfold wL_isOne_1 at z; unfold wL_isOne_1; omega)⟩
              · obtain ⟨_, rfl, rfl⟩ := mRA3 h
                exact ⟨a9, b9⟩
            · obtain ⟨v63, L64, V64, h10, h⟩ := mBA_some h
              have y10 := NL_check h10
              have a10 : mAv (wL_isOne_1) V V64 := mAv.tr a8 y10.1 (fun i z => by unfold wL_check at z; unfold wL_isOne_1; omega)
              have b10 : mAl (wL_isOne_1) Ln L64 := mAl.tr b8 y10.2 (fun i z => by unfold wL_check at z; unfold wL_isOne_1; omega)
              rcases mIf_some h with ⟨_, h⟩ | ⟨_, h⟩
              · obtain ⟨x69, _, h⟩ := mLt_some h
                have y := ih.2.1 _ _ _ _ _ _ _ h
                exact ⟨mAv.tr a10 y.1 (fun i z => by unfold wL_isOne_1 at z; unfold wL_isOne_1; omega), mAl.tr b10 y.2 (fun i z => by unfold wL_isOne_1 at z; unfold wL_isOne_1; omega)⟩
              · obtain ⟨_, rfl, rfl⟩ := mRA3 h
                exact ⟨a10, b10⟩
    · intro l1I l3I l6I l7J l9I l10I Ln V h
      rw [mL_isOne_go, if_neg (by decide), if_neg (by decide), if_pos rfl] at h
      unfold mL_isOne_b2 at h
      obtain ⟨v77, L78, V78, h11, h⟩ := mBA_some h
      have y11 := NL_type h11
      have a11 : mAv (wL_isOne_2) V V78 := mAv.tr mAv.rf y11.1 (fun i z => by unfold wL_type at z; unfold wL_isOne_2; omega)
      have b11 : mAl (wL_isOne_2) Ln L78 := mAl.tr mAl.rf y11.2 (fun i z => by unfold wL_type at z; unfold wL_isOne_2; omega)
      rcases mIf_some h with ⟨_, h⟩ | ⟨_, h⟩
      · obtain ⟨v90, L91, V91, h12, h⟩ := mBA_some h
        have y12 := NL_check h12
        have a12 : mAv (wL_isOne_2) V V91 := mAv.tr a11 y12.1 (fun i z => by unfold wL_check at z; unfold wL_isOne_2; omega)
        have b12 : mAl (wL_isOne_2) Ln L91 := mAl.tr b11 y12.2 (fun i z => by unfold wL_check at z; unfold wL_isOne_2; omega)
        rcases mIf_some h with ⟨_, h⟩ | ⟨_, h⟩
        · obtain ⟨x96, _, h⟩ := mLt_some h
          have y := ih.2.1 _ _ _ _ _ _ _ h
          exact ⟨mAv.tr a12 y.1 (fun i z => by unfold wL_isOne_1 at z; unfold wL_isOne_2; omega), mAl.tr b12 y.2 (fun i z => by unfold wL_isOne_1 at z; unfold wL_isOne_2; omega)⟩
        · obtain ⟨_, rfl, rfl⟩ := mRA3 h
          exact ⟨a12, b12⟩
      · obtain ⟨v83, L84, V84, h13, h⟩ := mBA_some h
        have y13 := NL_check h13
        have a13 : mAv (wL_isOne_2) V V84 := mAv.tr a11 y13.1 (fun i z => by unfold wL_check at z; unfold wL_isOne_2; omega)
        have b13 : mAl (wL_isOne_2) Ln L84 := mAl.tr b11 y13.2 (fun i z => by unfold wL_check at z; unfold wL_isOne_2; omega)
        rcases mIf_some h with ⟨_, h⟩ | ⟨_, h⟩
        · obtain ⟨x89, _, h⟩ := mLt_some h
          have y := ih.2.1 _ _ _ _ _ _ _ h
          exact ⟨mAv.tr a13 y.1 (fun i z => by unfold wL_isOne_1 at z; unfold wL_isOne_2; omega), mAl.tr b13 y.2 (fun i z => by unfold wL_isOne_1 at z; unfold wL_isOne_2; omega)⟩
        · obtain ⟨_, rfl, rfl⟩ := mRA3 h
          exact ⟨a13, b13⟩
    · intro l1I l3I l6I l9I Ln V h
      rw [mL_isOne_go, if_neg (by decide), if_neg (by decide), if_neg (by decide), if_pos rfl] at h
      unfold mL_isOne_b3 at h
      rcases mIf_some h with ⟨_, h⟩ | ⟨_, h⟩
      · obtain ⟨_, rfl, rfl⟩ := mRA3 h
        exact ⟨mAv.rf, mAl.rf⟩
      · rcases mIf_some h with ⟨_, h⟩ | ⟨_, h⟩
        · obtain ⟨v116, L117, V117, h14, h⟩ := mBA_some h
          have y14 := NL_check h14
          have a14 : mAv (wL_isOne_3) V V117 := mAv.tr mAv.rf y14.1 (fun i z => by unfold wL_check at z; unfold wL_isOne_3; omega)
          have b14 : mAl (wL_isOne_3) Ln L117 := mAl.tr mAl.rf y14.2 (fun i z => by unfold wL_check at z; unfold wL_isOne_3; omega)
          rcases mIf_some h with ⟨_, h⟩ | ⟨_, h⟩
          · obtain ⟨v122, _, h⟩ := mBN_some h
            obtain ⟨v127, L128, V128, h15, h⟩ := mBA_some h
            have y15 := NL_type h15
            have a15 : mAv (wL_isOne_3) V V128 := mAv.tr a14 y15.1 (fun i z => by unfold wL_type at z; unfold wL_isOne_3; omega)
            have b15 : mAl (wL_isOne_3) Ln L128 := mAl.tr b14 y15.2 (fun i z => by unfold wL_type at z; unfold wL_isOne_3; omega)
            obtain ⟨x132, _, h⟩ := mLt_some h
            have y := ih.2.2.2 _ _ _ _ _ _ h
            exact ⟨mAv.tr a15 y.1 (fun i z => by unfold wL_isOne_3 at z; unfold wL_isOne_3; omega), mAl.tr b15 y.2 (fun i z => by unfold wL_isOne_3 at z; unfold wL_isOne_3; omega)⟩
          · obtain ⟨_, rfl, rfl⟩ := mRA3 h
            exact ⟨a14, b14⟩
        · obtain ⟨v99, L100, V100, h16, h⟩ := mBA_some h
          have y16 := NL_check h16
          have a16 : mAv (wL_isOne_3) V V100 := mAv.tr mAv.rf y16.1 (fun i z => by unfold wL_check at z; unfold wL_isOne_3; omega)
          have b16 : mAl (wL_isOne_3) Ln L100 := mAl.tr mAl.rf y16.2 (fun i z => by unfold wL_check at z; unfold wL_isOne_3; omega)
          rcases mIf_some h with ⟨_, h⟩ | ⟨_, h⟩
          · obtain ⟨v105, _, h⟩ := mBN_some h
            obtain ⟨v110, L111, V111, h17, h⟩ := mBA_some h
            have y17 := NL_type h17
            have a17 : mAv (wL_isOne_3) V V111 := mAv.tr a16 y17.1 (fun i z => by unfold wL_type at z; unfold wL_isOne_3; omega)
            have b17 : mAl (wL_isOne_3) Ln L111 := mAl.tr b16 y17.2 (fun i z => by unfold wL_type at z; unfold wL_isOne_3; omega)
            obtain ⟨x115, _, h⟩ := mLt_some h
            have y := ih.2.2.2 _ _ _ _ _ _ h
            exact ⟨mAv.tr a17 y.1 (fun i z => by unfold wL_isOne_3 at z; unfold wL_isOne_3; omega), mAl.tr b17 y.2 (fun i z => by unfold wL_isOne_3 at z; unfold wL_isOne_3; omega)⟩
          · obtain ⟨_, rfl, rfl⟩ := mRA3 h
            exact ⟨a16, b16⟩
set_option maxHeartbeats 4000000 in
theorem NL_isOne {G : wkG} {F : Nat} {Ln Ln1 : Nat → Nat} {V V1 : mV} {v : Int32} {l1I : Int32} {l3I : Int32} (h : mL_isOne G F Ln l1I l3I V = some (v, Ln1, V1)) : mAv (wL_isOne) V V1 ∧ mAl (wL_isOne) Ln Ln1 := by
  have ih := NL_isOne_go (G := G) (F := F) (v := v) (Ln1 := Ln1) (V1 := V1) F
  unfold mL_isOne mL_isOne_s at h
  obtain ⟨v133, L134, V134, h18, h⟩ := mBA_some h
  have y18 := NL_answer h18
  have a18 : mAv (wL_isOne) V V134 := mAv.tr mAv.rf y18.1 (fun i z => by unfold wL_answer at z; unfold wL_isOne; omega)
  have b18 : mAl (wL_isOne) Ln L134 := mAl.tr mAl.rf y18.2 (fun i z => by unfold wL_answer at z; unfold wL_isOne; omega)
  rcases mIf_some h with ⟨_, h⟩ | ⟨_, h⟩
  · have y := ih.1 _ _ _ _ _ h
    exact ⟨mAv.tr a18 y.1 (fun i z => by unfold wL_isOne_0 at z; unfold wL_isOne; omega), mAl.tr b18 y.2 (fun i z => by unfold wL_isOne_0 at z; unfold wL_isOne; omega)⟩
  · rcases mIf_some h with ⟨_, h⟩ | ⟨_, h⟩
    · have y := ih.1 _ _ _ _ _ h
      exact ⟨mAv.tr a18 y.1 (fun i z => by unfold wL_isOne_0 at z; unfold wL_isOne; omega), mAl.tr b18 y.2 (fun i z => by unfold wL_isOne_0 at z; unfold wL_isOne; omega)⟩
    · obtain ⟨_, rfl, rfl⟩ := mRA3 h
      exact ⟨a18, b18⟩
def wL_areOne (i : Nat) : Prop := (2 ≤ i ∧ i ≤ 8) ∨ i = 11 ∨ (19 ≤ i ∧ i ≤ 34) ∨ (36 ≤ i ∧ i ≤ 54) ∨ (56 ≤ i ∧ i ≤ 60) ∨ (62 ≤ i ∧ i ≤ 69) ∨ (71 ≤ i ∧ i ≤ 90) ∨ (256 ≤ i ∧ i ≤ 347) ∨ (2048 ≤ i ∧ i ≤ 2049) ∨ i = 3000
def wL_areOne_0 (i : Nat) : Prop := (2 ≤ i ∧ i ≤ 8) ∨ i = 11 ∨ (19 ≤ i ∧ i ≤ 34) ∨ (36 ≤ i ∧ i ≤ 54) ∨ (56 ≤ i ∧ i ≤ 60) ∨ (62 ≤ i ∧ i ≤ 69) ∨ (71 ≤ i ∧ i ≤ 90) ∨ (256 ≤ i ∧ i ≤ 347) ∨ (2048 ≤ i ∧ i ≤ 2049) ∨ i = 3000
set_option maxHeartbeats 4000000 in
theorem NL_areOne_go {G : wkG} {F : Nat} {v : Int32} {Ln1 : Nat → Nat} {V1 : mV} : ∀ k' : Nat, (∀ (l2I : Int32) (l3I : Int32) (Ln : Nat → Nat) (V : mV), mL_areOne_go G F k' 0 Ln l2I l3I V = some (v, Ln1, V1) → mAv (wL_areOne_0) V V1 ∧ mAl (wL_areOne_0) Ln Ln1) := by
  intro k'
  induction k' with
  | zero => exact (fun _ _ _ _ h => by cases h)
  | succ k' ih =>
    intro l2I l3I Ln V h
    rw [mL_areOne_go, if_pos rfl] at h
    unfold mL_areOne_b0 at h
    obtain ⟨v1, _, h⟩ := mBN_some h
    rcases mIf_some h with ⟨_, h⟩ | ⟨_, h⟩
    · obtain ⟨_, rfl, rfl⟩ := mRA3 h
      exact ⟨mAv.rf, mAl.rf⟩
    · obtain ⟨v7, L8, V8, h1, h⟩ := mBA_some h
      have y1 := NL_isOne h1
      have a1 : mAv (wL_areOne_0) V V8 := mAv.tr mAv.rf y1.1 (fun i z => by unfold wL_isOne at z; unfold wL_areOne_0; omega)
      have b1 : mAl (wL_areOne_0) Ln L8 := mAl.tr mAl.rf y1.2 (fun i z => by unfold wL_isOne at z; unfold wL_areOne_0; omega)
      rcases mIf_some h with ⟨_, h⟩ | ⟨_, h⟩
      · obtain ⟨_, rfl, rfl⟩ := mRA3 h
        exact ⟨a1, b1⟩
      · obtain ⟨x13, _, h⟩ := mLt_some h
        have y := ih _ _ _ _ h
        exact ⟨mAv.tr a1 y.1 (fun i z => by unfold wL_areOne_0 at z; unfold wL_areOne_0; omega), mAl.tr b1 y.2 (fun i z => by unfold wL_areOne_0 at z; unfold wL_areOne_0; omega)⟩
set_option maxHeartbeats 4000000 in
theorem NL_areOne {G : wkG} {F : Nat} {Ln Ln1 : Nat → Nat} {V V1 : mV} {v : Int32} {l2I : Int32} (h : mL_areOne G F Ln l2I V = some (v, Ln1, V1)) : mAv (wL_areOne) V V1 ∧ mAl (wL_areOne) Ln Ln1 := by
  have ih := NL_areOne_go (G := G) (F := F) (v := v) (Ln1 := Ln1) (V1 := V1) F
  unfold mL_areOne mL_areOne_s at h
  have y := ih _ _ _ _ h
  exact ⟨mAv.tr mAv.rf y.1 (fun i z => by unfold wL_areOne_0 at z; unfold wL_areOne; omega), mAl.tr mAl.rf y.2 (fun i z => by unfold wL_areOne_0 at z; unfold wL_areOne; omega)⟩
def wL_isCarried (i : Nat) : Prop := i = 0 ∨ (2 ≤ i ∧ i ≤ 8) ∨ i = 11 ∨ (14 ≤ i ∧ i ≤ 15) ∨ (18 ≤ i ∧ i ≤ 34) ∨ (36 ≤ i ∧ i ≤ 54) ∨ (56 ≤ i ∧ i ≤ 60) ∨ (62 ≤ i ∧ i ≤ 69) ∨ (71 ≤ i ∧ i ≤ 90) ∨ (256 ≤ i ∧ i ≤ 347) ∨ (352 ≤ i ∧ i ≤ 537) ∨ (544 ≤ i ∧ i ≤ 545) ∨ (2048 ≤ i ∧ i ≤ 2049) ∨ i = 3000
set_option maxHeartbeats 4000000 in
theorem NL_isCarried {G : wkG} {F : Nat} {Ln Ln1 : Nat → Nat} {V V1 : mV} {v : Int32} {l1I : Int32} {l2I : Int32} (h : mL_isCarried G F Ln l1I l2I V = some (v, Ln1, V1)) : mAv (wL_isCarried) V V1 ∧ mAl (wL_isCarried) Ln Ln1 := by
  unfold mL_isCarried at h
  obtain ⟨v1, L2, V2, h1, h⟩ := mBA_some h
  have y1 := NL_carry h1
  have a1 : mAv (wL_isCarried) V V2 := mAv.tr mAv.rf y1.1 (fun i z => by unfold wL_carry at z; unfold wL_isCarried; omega)
  have b1 : mAl (wL_isCarried) Ln L2 := mAl.tr mAl.rf y1.2 (fun i z => by unfold wL_carry at z; unfold wL_isCarried; omega)
  rcases mIf_some h with ⟨_, h⟩ | ⟨_, h⟩
  · obtain ⟨v7, L8, V8, h2, h⟩ := mBA_some h
    have y2 := NL_answer h2
    have a2 : mAv (wL_isCarried) V V8 := mAv.tr a1 y2.1 (fun i z => by unfold wL_answer at z; unfold wL_isCarried; omega)
    have b2 : mAl (wL_isCarried) Ln L8 := mAl.tr b1 y2.2 (fun i z => by unfold wL_answer at z; unfold wL_isCarried; omega)
    obtain ⟨v12, _, h⟩ := mBN_some h
    rcases mIf_some h with ⟨_, h⟩ | ⟨_, h⟩
    · obtain ⟨v18, L19, V19, h3, h⟩ := mBA_some h
      have y3 := NL_cameFrom h3
      have a3 : mAv (wL_isCarried) V V19 := mAv.tr a2 y3.1 (fun i z => by unfold wL_cameFrom at z; unfold wL_isCarried; omega)
      have b3 : mAl (wL_isCarried) Ln L19 := mAl.tr b2 y3.2 (fun i z => by unfold wL_cameFrom at z; unfold wL_isCarried; omega)
      rcases mIf_some h with ⟨_, h⟩ | ⟨_, h⟩
      · obtain ⟨v24, L25, V25, h4, h⟩ := mBA_some h
        have y4 := NL_answer h4
        have a4 : mAv (wL_isCarried) V V25 := mAv.tr a3 y4.1 (fun i z => by unfold wL_answer at z; unfold wL_isCarried; omega)
        have b4 : mAl (wL_isCarried) Ln L25 := mAl.tr b3 y4.2 (fun i z => by unfold wL_answer at z; unfold wL_isCarried; omega)
        rcases mIf_some h with ⟨_, h⟩ | ⟨_, h⟩
        · obtain ⟨v30, L31, V31, h5, h⟩ := mBA_some h
          have y5 := NL_bring h5
          have a5 : mAv (wL_isCarried) V V31 := mAv.tr a4 y5.1 (fun i z => by unfold wL_bring at z; unfold wL_isCarried; omega)
          have b5 : mAl (wL_isCarried) Ln L31 := mAl.tr b4 y5.2 (fun i z => by unfold wL_bring at z; unfold wL_isCarried; omega)
          rcases mIf_some h with ⟨_, h⟩ | ⟨_, h⟩
          · rcases mIf_some h with ⟨_, h⟩ | ⟨_, h⟩
            · obtain ⟨v43, L44, V44, h6, h⟩ := mBA_some h
              have y6 := NL_check h6
              have a6 : mAv (wL_isCarried) V V44 := mAv.tr a5 y6.1 (fun i z => by unfold wL_check at z; unfold wL_isCarried; omega)
              have b6 : mAl (wL_isCarried) Ln L44 := mAl.tr b5 y6.2 (fun i z => by unfold wL_check at z; unfold wL_isCarried; omega)
              rcases mIf_some h with ⟨_, h⟩ | ⟨_, h⟩
              · obtain ⟨_, rfl, rfl⟩ := mRA3 h
                exact ⟨a6, b6⟩
              · obtain ⟨_, rfl, rfl⟩ := mRA3 h
                exact ⟨a6, b6⟩
            · obtain ⟨v37, L38, V38, h7, h⟩ := mBA_some h
              have y7 := NL_check h7
              have a7 : mAv (wL_isCarried) V V38 := mAv.tr a5 y7.1 (fun i z => by unfold wL_check at z; unfold wL_isCarried; omega)
              have b7 : mAl (wL_isCarried) Ln L38 := mAl.tr b5 y7.2 (fun i z => by unfold wL_check at z; unfold wL_isCarried; omega)
              rcases mIf_some h with ⟨_, h⟩ | ⟨_, h⟩
              · obtain ⟨_, rfl, rfl⟩ := mRA3 h
                exact ⟨a7, b7⟩
              · obtain ⟨_, rfl, rfl⟩ := mRA3 h
                exact ⟨a7, b7⟩
          · rcases mIf_some h with ⟨_, h⟩ | ⟨_, h⟩
            · rcases mIf_some h with ⟨_, h⟩ | ⟨_, h⟩
              · rcases mIf_some h with ⟨_, h⟩ | ⟨_, h⟩
                · obtain ⟨_, rfl, rfl⟩ := mRA3 h
                  exact ⟨a5, b5⟩
                · obtain ⟨_, rfl, rfl⟩ := mRA3 h
                  exact ⟨a5, b5⟩
              · obtain ⟨_, rfl, rfl⟩ := mRA3 h
                exact ⟨a5, b5⟩
            · obtain ⟨_, rfl, rfl⟩ := mRA3 h
              exact ⟨a5, b5⟩
        · obtain ⟨_, rfl, rfl⟩ := mRA3 h
          exact ⟨a4, b4⟩
      · obtain ⟨_, rfl, rfl⟩ := mRA3 h
        exact ⟨a3, b3⟩
    · obtain ⟨_, rfl, rfl⟩ := mRA3 h
      exact ⟨a2, b2⟩
  · rcases mIf_some h with ⟨_, h⟩ | ⟨_, h⟩
    · obtain ⟨_, rfl, rfl⟩ := mRA3 h
      exact ⟨a1, b1⟩
    · rcases mIf_some h with ⟨_, h⟩ | ⟨_, h⟩
      · obtain ⟨_, rfl, rfl⟩ := mRA3 h
        exact ⟨a1, b1⟩
      · obtain ⟨_, rfl, rfl⟩ := mRA3 h
        exact ⟨a1, b1⟩
end
