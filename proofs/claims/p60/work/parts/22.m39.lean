/-! LIFTED BY PROGRAM (lift.py): L_bring, L_check, L_claim, L_settle, L_checksum, L_isSound. -/
section
def mL_bring (G : wkG) (F : Nat) (Ln : Nat → Nat) (l1I : Int32) (V : mV) : Option (Int64 × (Nat → Nat) × mV) :=
  (mBT (mX11_bring F Ln (l1I) V) (fun v1 L2 V2 => some ((Int32.toInt64 v1), L2, V2)) (fun E6 L7 V7 => (if E6 = "java/lang/IndexOutOfBoundsException" then some ((-4000000000000000001 : Int64), L7, V7) else (if E6 = "java/lang/UnsupportedOperationException" then some ((-4000000000000000002 : Int64), L7, V7) else none))))
set_option maxHeartbeats 4000000 in
set_option maxRecDepth 100000 in
theorem ML_bring {G : wkG} {F : Nat} {Ln Ln1 : Nat → Nat} {V V1 : mV} {v : Int64} {l1I : Int32} (h : mL_bring G F Ln l1I V = some (v, Ln1, V1)) : mP Ln1 ≤ mP Ln := by
  unfold mL_bring at h
  rcases mBT_some h with ⟨_, _, _, z1, h⟩ | ⟨_, _, _, z1, h⟩
  · refine Nat.le_trans ?_ (MX11_bring z1)
    rcases mIf_some h with ⟨_, h⟩ | ⟨_, h⟩
    · cases h
      exact Nat.le_refl _
    · rcases mIf_some h with ⟨_, h⟩ | ⟨_, h⟩
      · cases h
        exact Nat.le_refl _
      · cases h
  · refine Nat.le_trans ?_ (MX11_bring z1)
    cases h
    exact Nat.le_refl _
set_option maxHeartbeats 4000000 in
set_option maxRecDepth 100000 in
theorem LL_bring {G : wkG} {α : Nat → Nat} {F : Nat} {S : wPS} {Ln Ln1 : Nat → Nat} {V V1 : mV} {v : Int64} {Φ : (Int64 → wPS → Prop)} {l0Ax : Nat} {l1Ix l1I : Int32} {k0 n0 : Nat} (h : mL_bring G F Ln l1I V = some (v, Ln1, V1)) (R : mRel α S Ln V) (el0A : l0Ax = α 0) (el1I : l1Ix = l1I) (hk : (mP Ln - mP Ln1) / 16 ≤ k0) (hn : mP Ln - mP Ln1 ≤ n0) (k : (∀ S1, mRel α S1 Ln1 V1 → mFr α S S1 → Φ v S1)) : rL_bring G F k0 n0 l0Ax l1Ix S Φ := by
  have el0A := el0A.symm
  subst el0A
  have el1I := el1I.symm
  subst el1I
  unfold mL_bring at h
  unfold rL_bring
  rcases mBT_some h with ⟨E6, L7, V7, z0, h⟩ | ⟨v1, L2, V2, hv1, h⟩
  · have m0 : mP L7 ≤ mP Ln := MX11_bring z0
    have q0 : mP Ln1 ≤ mP L7 := by
      rcases mIf_some h with ⟨_, h⟩ | ⟨_, h⟩
      · cases h
        exact Nat.le_refl _
      · rcases mIf_some h with ⟨_, h⟩ | ⟨_, h⟩
        · cases h
          exact Nat.le_refl _
        · cases h
    refine ⟨(mP Ln - mP L7) / 16, mP Ln - mP L7, by omega, by omega, ?_⟩
    refine LX11_bring_E z0 R rfl rfl (by omega) (by omega) (fun S7 R7 F7 => ?_)
    refine mIf h Iff.rfl (fun c2 h => ?_) (fun c2 h => ?_)
    · obtain ⟨rfl, rfl, rfl⟩ := mRA3 h
      exact k _ R7 F7
    · refine mIf h Iff.rfl (fun c3 h => ?_) (fun c3 h => ?_)
      · obtain ⟨rfl, rfl, rfl⟩ := mRA3 h
        exact k _ R7 F7
      · cases h
  · have mv1 : mP L2 ≤ mP Ln := MX11_bring hv1
    have qv1 : mP Ln1 ≤ mP L2 := by
      cases h
      exact Nat.le_refl _
    refine ⟨(mP Ln - mP L2) / 16, mP Ln - mP L2, by omega, by omega, ?_⟩
    refine LX11_bring_V hv1 R rfl rfl (by omega) (by omega) (fun S2 R2 F2 => ?_)
    obtain ⟨rfl, rfl, rfl⟩ := mRA3 h
    exact k _ R2 F2
def mL_check (G : wkG) (F : Nat) (Ln : Nat → Nat) (l1I : Int32) (l2I : Int32) (V : mV) : Option (Int64 × (Nat → Nat) × mV) :=
  (mBT (mX11_check F Ln (l1I) (l2I) V) (fun v1 L2 V2 => some ((Int32.toInt64 v1), L2, V2)) (fun E6 L7 V7 => (if E6 = "java/lang/IndexOutOfBoundsException" then some ((-4000000000000000001 : Int64), L7, V7) else none)))
set_option maxHeartbeats 4000000 in
set_option maxRecDepth 100000 in
theorem ML_check {G : wkG} {F : Nat} {Ln Ln1 : Nat → Nat} {V V1 : mV} {v : Int64} {l1I : Int32} {l2I : Int32} (h : mL_check G F Ln l1I l2I V = some (v, Ln1, V1)) : mP Ln1 ≤ mP Ln := by
  unfold mL_check at h
  rcases mBT_some h with ⟨_, _, _, z1, h⟩ | ⟨_, _, _, z1, h⟩
  · refine Nat.le_trans ?_ (MX11_check z1)
    rcases mIf_some h with ⟨_, h⟩ | ⟨_, h⟩
    · cases h
      exact Nat.le_refl _
    · cases h
  · refine Nat.le_trans ?_ (MX11_check z1)
    cases h
    exact Nat.le_refl _
set_option maxHeartbeats 4000000 in
set_option maxRecDepth 100000 in
theorem LL_check {G : wkG} {α : Nat → Nat} {F : Nat} {S : wPS} {Ln Ln1 : Nat → Nat} {V V1 : mV} {v : Int64} {Φ : (Int64 → wPS → Prop)} {l0Ax : Nat} {l1Ix l1I : Int32} {l2Ix l2I : Int32} {k0 n0 : Nat} (h : mL_check G F Ln l1I l2I V = some (v, Ln1, V1)) (R : mRel α S Ln V) (el0A : l0Ax = α 0) (el1I : l1Ix = l1I) (el2I : l2Ix = l2I) (hk : (mP Ln - mP Ln1) / 16 ≤ k0) (hn : mP Ln - mP Ln1 ≤ n0) (k : (∀ S1, mRel α S1 Ln1 V1 → mFr α S S1 → Φ v S1)) : rL_check G F k0 n0 l0Ax l1Ix l2Ix S Φ := by
  have el0A := el0A.symm
  subst el0A
  have el1I := el1I.symm
  subst el1I
  have el2I := el2I.symm
  subst el2I
  unfold mL_check at h
  unfold rL_check
  rcases mBT_some h with ⟨E6, L7, V7, z0, h⟩ | ⟨v1, L2, V2, hv1, h⟩
  · have m0 : mP L7 ≤ mP Ln := MX11_check z0
    have q0 : mP Ln1 ≤ mP L7 := by
      rcases mIf_some h with ⟨_, h⟩ | ⟨_, h⟩
      · cases h
        exact Nat.le_refl _
      · cases h
    refine ⟨(mP Ln - mP L7) / 16, mP Ln - mP L7, by omega, by omega, ?_⟩
    refine LX11_check_E z0 R rfl rfl rfl (by omega) (by omega) (fun S7 R7 F7 => ?_)
    refine mIf h Iff.rfl (fun c2 h => ?_) (fun c2 h => ?_)
    · obtain ⟨rfl, rfl, rfl⟩ := mRA3 h
      exact k _ R7 F7
    · cases h
  · have mv1 : mP L2 ≤ mP Ln := MX11_check hv1
    have qv1 : mP Ln1 ≤ mP L2 := by
      cases h
      exact Nat.le_refl _
    refine ⟨(mP Ln - mP L2) / 16, mP Ln - mP L2, by omega, by omega, ?_⟩
    refine LX11_check_V hv1 R rfl rfl rfl (by omega) (by omega) (fun S2 R2 F2 => ?_)
    obtain ⟨rfl, rfl, rfl⟩ := mRA3 h
    exact k _ R2 F2
def mL_claim (G : wkG) (F : Nat) (Ln : Nat → Nat) (l1I : Int32) (l2I : Int32) (l3I : Int32) (V : mV) : Option (Int64 × (Nat → Nat) × mV) :=
  (mBT (mX11_claim F Ln (l1I) (l2I) (l3I) V) (fun v1 L2 V2 => some ((Int32.toInt64 v1), L2, V2)) (fun E6 L7 V7 => (if E6 = "java/lang/IndexOutOfBoundsException" then some ((-4000000000000000001 : Int64), L7, V7) else (if E6 = "java/lang/IllegalStateException" then some ((-4000000000000000002 : Int64), L7, V7) else none))))
set_option maxHeartbeats 4000000 in
set_option maxRecDepth 100000 in
theorem ML_claim {G : wkG} {F : Nat} {Ln Ln1 : Nat → Nat} {V V1 : mV} {v : Int64} {l1I : Int32} {l2I : Int32} {l3I : Int32} (h : mL_claim G F Ln l1I l2I l3I V = some (v, Ln1, V1)) : mP Ln1 ≤ mP Ln := by
  unfold mL_claim at h
  rcases mBT_some h with ⟨_, _, _, z1, h⟩ | ⟨_, _, _, z1, h⟩
  · refine Nat.le_trans ?_ (MX11_claim z1)
    rcases mIf_some h with ⟨_, h⟩ | ⟨_, h⟩
    · cases h
      exact Nat.le_refl _
    · rcases mIf_some h with ⟨_, h⟩ | ⟨_, h⟩
      · cases h
        exact Nat.le_refl _
      · cases h
  · refine Nat.le_trans ?_ (MX11_claim z1)
    cases h
    exact Nat.le_refl _
set_option maxHeartbeats 4000000 in
set_option maxRecDepth 100000 in
theorem LL_claim {G : wkG} {α : Nat → Nat} {F : Nat} {S : wPS} {Ln Ln1 : Nat → Nat} {V V1 : mV} {v : Int64} {Φ : (Int64 → wPS → Prop)} {l0Ax : Nat} {l1Ix l1I : Int32} {l2Ix l2I : Int32} {l3Ix l3I : Int32} {k0 n0 : Nat} (h : mL_claim G F Ln l1I l2I l3I V = some (v, Ln1, V1)) (R : mRel α S Ln V) (el0A : l0Ax = α 0) (el1I : l1Ix = l1I) (el2I : l2Ix = l2I) (el3I : l3Ix = l3I) (hk : (mP Ln - mP Ln1) / 16 ≤ k0) (hn : mP Ln - mP Ln1 ≤ n0) (k : (∀ S1, mRel α S1 Ln1 V1 → mFr α S S1 → Φ v S1)) : rL_claim G F k0 n0 l0Ax l1Ix l2Ix l3Ix S Φ := by
  have el0A := el0A.symm
  subst el0A
  have el1I := el1I.symm
  subst el1I
  have el2I := el2I.symm
  subst el2I
  have el3I := el3I.symm
  subst el3I
  unfold mL_claim at h
  unfold rL_claim
  rcases mBT_some h with ⟨E6, L7, V7, z0, h⟩ | ⟨v1, L2, V2, hv1, h⟩
  · have m0 : mP L7 ≤ mP Ln := MX11_claim z0
    have q0 : mP Ln1 ≤ mP L7 := by
      rcases mIf_some h with ⟨_, h⟩ | ⟨_, h⟩
      · cases h
        exact Nat.le_refl _
      · rcases mIf_some h with ⟨_, h⟩ | ⟨_, h⟩
        · cases h
          exact Nat.le_refl _
        · cases h
    refine ⟨(mP Ln - mP L7) / 16, mP Ln - mP L7, by omega, by omega, ?_⟩
    refine LX11_claim_E z0 R rfl rfl rfl rfl (by omega) (by omega) (fun S7 R7 F7 => ?_)
    refine mIf h Iff.rfl (fun c2 h => ?_) (fun c2 h => ?_)
    · obtain ⟨rfl, rfl, rfl⟩ := mRA3 h
      exact k _ R7 F7
    · refine mIf h Iff.rfl (fun c3 h => ?_) (fun c3 h => ?_)
      · obtain ⟨rfl, rfl, rfl⟩ := mRA3 h
        exact k _ R7 F7
      · cases h
  · have mv1 : mP L2 ≤ mP Ln := MX11_claim hv1
    have qv1 : mP Ln1 ≤ mP L2 := by
      cases h
      exact Nat.le_refl _
    refine ⟨(mP Ln - mP L2) / 16, mP Ln - mP L2, by omega, by omega, ?_⟩
    refine LX11_claim_V hv1 R rfl rfl rfl rfl (by omega) (by omega) (fun S2 R2 F2 => ?_)
    obtain ⟨rfl, rfl, rfl⟩ := mRA3 h
    exact k _ R2 F2
def mL_settle (G : wkG) (F : Nat) (Ln : Nat → Nat) (V : mV) : Option (Int64 × (Nat → Nat) × mV) :=
  (mBT (mX11_settle F Ln V) (fun v1 L2 V2 => some ((Int32.toInt64 v1), L2, V2)) (fun E6 L7 V7 => none))
set_option maxHeartbeats 4000000 in
set_option maxRecDepth 100000 in
theorem ML_settle {G : wkG} {F : Nat} {Ln Ln1 : Nat → Nat} {V V1 : mV} {v : Int64} (h : mL_settle G F Ln V = some (v, Ln1, V1)) : mP Ln1 ≤ mP Ln := by
  unfold mL_settle at h
  rcases mBT_some h with ⟨_, _, _, z1, h⟩ | ⟨_, _, _, z1, h⟩
  · refine Nat.le_trans ?_ (MX11_settle z1)
    cases h
  · refine Nat.le_trans ?_ (MX11_settle z1)
    cases h
    exact Nat.le_refl _
set_option maxHeartbeats 4000000 in
set_option maxRecDepth 100000 in
theorem LL_settle {G : wkG} {α : Nat → Nat} {F : Nat} {S : wPS} {Ln Ln1 : Nat → Nat} {V V1 : mV} {v : Int64} {Φ : (Int64 → wPS → Prop)} {l0Ax : Nat} {k0 n0 : Nat} (h : mL_settle G F Ln V = some (v, Ln1, V1)) (R : mRel α S Ln V) (el0A : l0Ax = α 0) (hk : (mP Ln - mP Ln1) / 16 ≤ k0) (hn : mP Ln - mP Ln1 ≤ n0) (k : (∀ S1, mRel α S1 Ln1 V1 → mFr α S S1 → Φ v S1)) : rL_settle G F k0 n0 l0Ax S Φ := by
  have el0A := el0A.symm
  subst el0A
  unfold mL_settle at h
  unfold rL_settle
  rcases mBT_some h with ⟨E6, L7, V7, z0, h⟩ | ⟨v1, L2, V2, hv1, h⟩
  · have m0 : mP L7 ≤ mP Ln := MX11_settle z0
    have q0 : mP Ln1 ≤ mP L7 := by
      cases h
    refine ⟨(mP Ln - mP L7) / 16, mP Ln - mP L7, by omega, by omega, ?_⟩
    refine LX11_settle_E z0 R rfl (by omega) (by omega) (fun S7 R7 F7 => ?_)
    cases h
  · have mv1 : mP L2 ≤ mP Ln := MX11_settle hv1
    have qv1 : mP Ln1 ≤ mP L2 := by
      cases h
      exact Nat.le_refl _
    refine ⟨(mP Ln - mP L2) / 16, mP Ln - mP L2, by omega, by omega, ?_⟩
    refine LX11_settle_V hv1 R rfl (by omega) (by omega) (fun S2 R2 F2 => ?_)
    obtain ⟨rfl, rfl, rfl⟩ := mRA3 h
    exact k _ R2 F2
def mL_checksum (G : wkG) (F : Nat) (Ln : Nat → Nat) (V : mV) : Option (Int64 × (Nat → Nat) × mV) :=
  (mBT (mX11_checksum F Ln V) (fun v1 L2 V2 => some (v1, L2, V2)) (fun E6 L7 V7 => none))
set_option maxHeartbeats 4000000 in
set_option maxRecDepth 100000 in
theorem ML_checksum {G : wkG} {F : Nat} {Ln Ln1 : Nat → Nat} {V V1 : mV} {v : Int64} (h : mL_checksum G F Ln V = some (v, Ln1, V1)) : mP Ln1 ≤ mP Ln := by
  unfold mL_checksum at h
  rcases mBT_some h with ⟨_, _, _, z1, h⟩ | ⟨_, _, _, z1, h⟩
  · refine Nat.le_trans ?_ (MX11_checksum z1)
    cases h
  · refine Nat.le_trans ?_ (MX11_checksum z1)
    cases h
    exact Nat.le_refl _
set_option maxHeartbeats 4000000 in
set_option maxRecDepth 100000 in
theorem LL_checksum {G : wkG} {α : Nat → Nat} {F : Nat} {S : wPS} {Ln Ln1 : Nat → Nat} {V V1 : mV} {v : Int64} {Φ : (Int64 → wPS → Prop)} {l0Ax : Nat} {k0 n0 : Nat} (h : mL_checksum G F Ln V = some (v, Ln1, V1)) (R : mRel α S Ln V) (el0A : l0Ax = α 0) (hk : (mP Ln - mP Ln1) / 16 ≤ k0) (hn : mP Ln - mP Ln1 ≤ n0) (k : (∀ S1, mRel α S1 Ln1 V1 → mFr α S S1 → Φ v S1)) : rL_checksum G F k0 n0 l0Ax S Φ := by
  have el0A := el0A.symm
  subst el0A
  unfold mL_checksum at h
  unfold rL_checksum
  rcases mBT_some h with ⟨E6, L7, V7, z0, h⟩ | ⟨v1, L2, V2, hv1, h⟩
  · have m0 : mP L7 ≤ mP Ln := MX11_checksum z0
    have q0 : mP Ln1 ≤ mP L7 := by
      cases h
    refine ⟨(mP Ln - mP L7) / 16, mP Ln - mP L7, by omega, by omega, ?_⟩
    refine LX11_checksum_E z0 R rfl (by omega) (by omega) (fun S7 R7 F7 => ?_)
    cases h
  · have mv1 : mP L2 ≤ mP Ln := MX11_checksum hv1
    have qv1 : mP Ln1 ≤ mP L2 := by
      cases h
      exact Nat.le_refl _
    refine ⟨(mP Ln - mP L2) / 16, mP Ln - mP L2, by omega, by omega, ?_⟩
    refine LX11_checksum_V hv1 R rfl (by omega) (by omega) (fun S2 R2 F2 => ?_)
    obtain ⟨rfl, rfl, rfl⟩ := mRA3 h
    exact k _ R2 F2
def mL_isSound (G : wkG) (F : Nat) (Ln : Nat → Nat) (V : mV) : Option (Int64 × (Nat → Nat) × mV) :=
  (mBT (mX11_isSound F Ln V) (fun v1 L2 V2 => (if v1 = 0 then some ((0 : Int64), L2, V2) else some ((1 : Int64), L2, V2))) (fun E6 L7 V7 => none))
set_option maxHeartbeats 4000000 in
set_option maxRecDepth 100000 in
theorem ML_isSound {G : wkG} {F : Nat} {Ln Ln1 : Nat → Nat} {V V1 : mV} {v : Int64} (h : mL_isSound G F Ln V = some (v, Ln1, V1)) : mP Ln1 ≤ mP Ln := by
  unfold mL_isSound at h
  rcases mBT_some h with ⟨_, _, _, z1, h⟩ | ⟨_, _, _, z1, h⟩
  · refine Nat.le_trans ?_ (MX11_isSound z1)
    cases h
  · refine Nat.le_trans ?_ (MX11_isSound z1)
    rcases mIf_some h with ⟨_, h⟩ | ⟨_, h⟩
    · cases h
      exact Nat.le_refl _
    · cases h
      exact Nat.le_refl _
set_option maxHeartbeats 4000000 in
set_option maxRecDepth 100000 in
theorem LL_isSound {G : wkG} {α : Nat → Nat} {F : Nat} {S : wPS} {Ln Ln1 : Nat → Nat} {V V1 : mV} {v : Int64} {Φ : (Int64 → wPS → Prop)} {l0Ax : Nat} {k0 n0 : Nat} (h : mL_isSound G F Ln V = some (v, Ln1, V1)) (R : mRel α S Ln V) (el0A : l0Ax = α 0) (hk : (mP Ln - mP Ln1) / 16 ≤ k0) (hn : mP Ln - mP Ln1 ≤ n0) (k : (∀ S1, mRel α S1 Ln1 V1 → mFr α S S1 → Φ v S1)) : rL_isSound G F k0 n0 l0Ax S Φ := by
  have el0A := el0A.symm
  subst el0A
  unfold mL_isSound at h
  unfold rL_isSound
  rcases mBT_some h with ⟨E6, L7, V7, z0, h⟩ | ⟨v1, L2, V2, hv1, h⟩
  · have m0 : mP L7 ≤ mP Ln := MX11_isSound z0
    have q0 : mP Ln1 ≤ mP L7 := by
      cases h
    refine ⟨(mP Ln - mP L7) / 16, mP Ln - mP L7, by omega, by omega, ?_⟩
    refine LX11_isSound_E z0 R rfl (by omega) (by omega) (fun S7 R7 F7 => ?_)
    cases h
  · have mv1 : mP L2 ≤ mP Ln := MX11_isSound hv1
    have qv1 : mP Ln1 ≤ mP L2 := by
      rcases mIf_some h with ⟨_, h⟩ | ⟨_, h⟩
      · cases h
        exact Nat.le_refl _
      · cases h
        exact Nat.le_refl _
    refine ⟨(mP Ln - mP L2) / 16, mP Ln - mP L2, by omega, by omega, ?_⟩
    refine LX11_isSound_V hv1 R rfl (by omega) (by omega) (fun S2 R2 F2 => ?_)
    refine mIf h Iff.rfl (fun c2 h => ?_) (fun c2 h => ?_)
    · obtain ⟨rfl, rfl, rfl⟩ := mRA3 h
      exact k _ R2 F2
    · obtain ⟨rfl, rfl, rfl⟩ := mRA3 h
      exact k _ R2 F2
end
