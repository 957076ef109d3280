/-! LIFTED BY PROGRAM (lift.py): L_undo, L_put, L_change, L_kindOf, L_open, L_setBound, L_lean, L_stand, L_carry, L_boundOf, L_answer, L_number, L_length, L_rowSum, L_borrow. -/
section
def mL_undo (G : wkG) (F : Nat) (Ln : Nat → Nat) (V : mV) : Option (Int64 × (Nat → Nat) × mV) :=
  (mBT (mX11_undo F Ln V) (fun v1 L2 V2 => some ((Int32.toInt64 v1), L2, V2)) (fun E6 L7 V7 => (if E6 = "java/util/NoSuchElementException" then some ((-4000000000000000001 : Int64), L7, V7) else none)))
set_option maxHeartbeats 4000000 in
set_option maxRecDepth 100000 in
theorem ML_undo {G : wkG} {F : Nat} {Ln Ln1 : Nat → Nat} {V V1 : mV} {v : Int64} (h : mL_undo G F Ln V = some (v, Ln1, V1)) : mP Ln1 ≤ mP Ln := by
  unfold mL_undo at h
  rcases mBT_some h with ⟨_, _, _, z1, h⟩ | ⟨_, _, _, z1, h⟩
  · refine Nat.le_trans ?_ (MX11_undo z1)
    rcases mIf_some h with ⟨_, h⟩ | ⟨_, h⟩
    · cases h
      exact Nat.le_refl _
    · cases h
  · refine Nat.le_trans ?_ (MX11_undo z1)
    cases h
    exact Nat.le_refl _
set_option maxHeartbeats 4000000 in
set_option maxRecDepth 100000 in
theorem LL_undo {G : wkG} {α : Nat → Nat} {F : Nat} {S : wPS} {Ln Ln1 : Nat → Nat} {V V1 : mV} {v : Int64} {Φ : (Int64 → wPS → Prop)} {l0Ax : Nat} {k0 n0 : Nat} (h : mL_undo G F Ln V = some (v, Ln1, V1)) (R : mRel α S Ln V) (el0A : l0Ax = α 0) (hk : (mP Ln - mP Ln1) / 16 ≤ k0) (hn : mP Ln - mP Ln1 ≤ n0) (k : (∀ S1, mRel α S1 Ln1 V1 → mFr α S S1 → Φ v S1)) : rL_undo G F k0 n0 l0Ax S Φ := by
  have el0A := el0A.symm
  subst el0A
  unfold mL_undo at h
  unfold rL_undo
  rcases mBT_some h with ⟨E6, L7, V7, z0, h⟩ | ⟨v1, L2, V2, hv1, h⟩
  · have m0 : mP L7 ≤ mP Ln := MX11_undo z0
    have q0 : mP Ln1 ≤ mP L7 := by
      rcases mIf_some h with ⟨_, h⟩ | ⟨_, h⟩
      · cases h
        exact Nat.le_refl _
      · cases h
    refine ⟨(mP Ln - mP L7) / 16, mP Ln - mP L7, by omega, by omega, ?_⟩
    refine LX11_undo_E z0 R rfl (by omega) (by omega) (fun S7 R7 F7 => ?_)
    refine mIf h Iff.rfl (fun c2 h => ?_) (fun c2 h => ?_)
    · obtain ⟨rfl, rfl, rfl⟩ := mRA3 h
      exact k _ R7 F7
    · cases h
  · have mv1 : mP L2 ≤ mP Ln := MX11_undo hv1
    have qv1 : mP Ln1 ≤ mP L2 := by
      cases h
      exact Nat.le_refl _
    refine ⟨(mP Ln - mP L2) / 16, mP Ln - mP L2, by omega, by omega, ?_⟩
    refine LX11_undo_V hv1 R rfl (by omega) (by omega) (fun S2 R2 F2 => ?_)
    obtain ⟨rfl, rfl, rfl⟩ := mRA3 h
    exact k _ R2 F2
def mL_put (G : wkG) (F : Nat) (Ln : Nat → Nat) (l1I : Int32) (l2I : Int32) (l3I : Int32) (l4I : Int32) (l5I : Int32) (l6I : Int32) (V : mV) : Option (Int64 × (Nat → Nat) × mV) :=
  (mBT (mX11_put F Ln (l1I) (l2I) (l3I) (l4I) (l5I) (l6I) V) (fun v1 L2 V2 => some ((Int32.toInt64 v1), L2, V2)) (fun E6 L7 V7 => (if E6 = "java/lang/IndexOutOfBoundsException" then some ((-4000000000000000001 : Int64), L7, V7) else (if E6 = "java/lang/IllegalArgumentException" then some ((-4000000000000000002 : Int64), L7, V7) else (if E6 = "java/lang/UnsupportedOperationException" then some ((-4000000000000000003 : Int64), L7, V7) else (if E6 = "java/lang/IllegalStateException" then some ((-4000000000000000004 : Int64), L7, V7) else none))))))
set_option maxHeartbeats 4000000 in
set_option maxRecDepth 100000 in
theorem ML_put {G : wkG} {F : Nat} {Ln Ln1 : Nat → Nat} {V V1 : mV} {v : Int64} {l1I : Int32} {l2I : Int32} {l3I : Int32} {l4I : Int32} {l5I : Int32} {l6I : Int32} (h : mL_put G F Ln l1I l2I l3I l4I l5I l6I V = some (v, Ln1, V1)) : mP Ln1 ≤ mP Ln := by
  unfold mL_put at h
  rcases mBT_some h with ⟨_, _, _, z1, h⟩ | ⟨_, _, _, z1, h⟩
  · refine Nat.le_trans ?_ (MX11_put z1)
    rcases mIf_some h with ⟨_, h⟩ | ⟨_, h⟩
    · cases h
      exact Nat.le_refl _
    · rcases mIf_some h with ⟨_, h⟩ | ⟨_, h⟩
      · cases h
        exact Nat.le_refl _
      · rcases mIf_some h with ⟨_, h⟩ | ⟨_, h⟩
        · cases h
          exact Nat.le_refl _
        · rcases mIf_some h with ⟨_, h⟩ | ⟨_, h⟩
          · cases h
            exact Nat.le_refl _
          · cases h
  · refine Nat.le_trans ?_ (MX11_put z1)
    cases h
    exact Nat.le_refl _
set_option maxHeartbeats 4000000 in
set_option maxRecDepth 100000 in
theorem LL_put {G : wkG} {α : Nat → Nat} {F : Nat} {S : wPS} {Ln Ln1 : Nat → Nat} {V V1 : mV} {v : Int64} {Φ : (Int64 → wPS → Prop)} {l0Ax : Nat} {l1Ix l1I : Int32} {l2Ix l2I : Int32} {l3Ix l3I : Int32} {l4Ix l4I : Int32} {l5Ix l5I : Int32} {l6Ix l6I : Int32} {k0 n0 : Nat} (h : mL_put G F Ln l1I l2I l3I l4I l5I l6I V = some (v, Ln1, V1)) (R : mRel α S Ln V) (el0A : l0Ax = α 0) (el1I : l1Ix = l1I) (el2I : l2Ix = l2I) (el3I : l3Ix = l3I) (el4I : l4Ix = l4I) (el5I : l5Ix = l5I) (el6I : l6Ix = l6I) (hk : (mP Ln - mP Ln1) / 16 ≤ k0) (hn : mP Ln - mP Ln1 ≤ n0) (k : (∀ S1, mRel α S1 Ln1 V1 → mFr α S S1 → Φ v S1)) : rL_put G F k0 n0 l0Ax l1Ix l2Ix l3Ix l4Ix l5Ix l6Ix S Φ := by
  have el0A := el0A.symm
  subst el0A
  have el1I := el1I.symm
  subst el1I
  have el2I := el2I.symm
  subst el2I
  have el3I := el3I.symm
  subst el3I
  have el4I := el4I.symm
  subst el4I
  have el5I := el5I.symm
  subst el5I
  have el6I := el6I.symm
  subst el6I
  unfold mL_put at h
  unfold rL_put
  rcases mBT_some h with ⟨E6, L7, V7, z0, h⟩ | ⟨v1, L2, V2, hv1, h⟩
  · have m0 : mP L7 ≤ mP Ln := MX11_put z0
    have q0 : mP Ln1 ≤ mP L7 := by
      rcases mIf_some h with ⟨_, h⟩ | ⟨_, h⟩
      · cases h
        exact Nat.le_refl _
      · rcases mIf_some h with ⟨_, h⟩ | ⟨_, h⟩
        · cases h
          exact Nat.le_refl _
        · rcases mIf_some h with ⟨_, h⟩ | ⟨_, h⟩
          · cases h
            exact Nat.le_refl _
          · rcases mIf_some h with ⟨_, h⟩ | ⟨_, h⟩
            · cases h
              exact Nat.le_refl _
            · cases h
    refine ⟨(mP Ln - mP L7) / 16, mP Ln - mP L7, by omega, by omega, ?_⟩
    refine LX11_put_E z0 R rfl rfl rfl rfl rfl rfl rfl (by omega) (by omega) (fun S7 R7 F7 => ?_)
    refine mIf h Iff.rfl (fun c2 h => ?_) (fun c2 h => ?_)
    · obtain ⟨rfl, rfl, rfl⟩ := mRA3 h
      exact k _ R7 F7
    · refine mIf h Iff.rfl (fun c3 h => ?_) (fun c3 h => ?_)
      · obtain ⟨rfl, rfl, rfl⟩ := mRA3 h
        exact k _ R7 F7
      · refine mIf h Iff.rfl (fun c4 h => ?_) (fun c4 h => ?_)
        · obtain ⟨rfl, rfl, rfl⟩ := mRA3 h
          exact k _ R7 F7
        · refine mIf h Iff.rfl (fun c5 h => ?_) (fun c5 h => ?_)
          · obtain ⟨rfl, rfl, rfl⟩ := mRA3 h
            exact k _ R7 F7
          · cases h
  · have mv1 : mP L2 ≤ mP Ln := MX11_put hv1
    have qv1 : mP Ln1 ≤ mP L2 := by
      cases h
      exact Nat.le_refl _
    refine ⟨(mP Ln - mP L2) / 16, mP Ln - mP L2, by omega, by omega, ?_⟩
    refine LX11_put_V hv1 R rfl rfl rfl rfl rfl rfl rfl (by omega) (by omega) (fun S2 R2 F2 => ?_)
    obtain ⟨rfl, rfl, rfl⟩ := mRA3 h
    exact k _ R2 F2
def mL_change (G : wkG) (F : Nat) (Ln : Nat → Nat) (l1I : Int32) (l2I : Int32) (l3I : Int32) (l4I : Int32) (l5I : Int32) (l6I : Int32) (l7I : Int32) (V : mV) : Option (Int64 × (Nat → Nat) × mV) :=
  (mBT (mX11_change F Ln (l1I) (l2I) (l3I) (l4I) (l5I) (l6I) (l7I) V) (fun v1 L2 V2 => some ((Int32.toInt64 v1), L2, V2)) (fun E6 L7 V7 => (if E6 = "java/lang/IndexOutOfBoundsException" then some ((-4000000000000000001 : Int64), L7, V7) else (if E6 = "java/util/NoSuchElementException" then some ((-4000000000000000002 : Int64), L7, V7) else (if E6 = "java/lang/IllegalArgumentException" then some ((-4000000000000000003 : Int64), L7, V7) else (if E6 = "java/lang/UnsupportedOperationException" then some ((-4000000000000000004 : Int64), L7, V7) else none))))))
set_option maxHeartbeats 4000000 in
set_option maxRecDepth 100000 in
theorem ML_change {G : wkG} {F : Nat} {Ln Ln1 : Nat → Nat} {V V1 : mV} {v : Int64} {l1I : Int32} {l2I : Int32} {l3I : Int32} {l4I : Int32} {l5I : Int32} {l6I : Int32} {l7I : Int32} (h : mL_change G F Ln l1I l2I l3I l4I l5I l6I l7I V = some (v, Ln1, V1)) : mP Ln1 ≤ mP Ln := by
  unfold mL_change at h
  rcases mBT_some h with ⟨_, _, _, z1, h⟩ | ⟨_, _, _, z1, h⟩
  · refine Nat.le_trans ?_ (MX11_change z1)
    rcases mIf_some h with ⟨_, h⟩ | ⟨_, h⟩
    · cases h
      exact Nat.le_refl _
    · rcases mIf_some h with ⟨_, h⟩ | ⟨_, h⟩
      · cases h
        exact Nat.le_refl _
      · rcases mIf_some h with ⟨_, h⟩ | ⟨_, h⟩
        · cases h
          exact Nat.le_refl _
        · rcases mIf_some h with ⟨_, h⟩ | ⟨_, h⟩
          · cases h
            exact Nat.le_refl _
          · cases h
  · refine Nat.le_trans ?_ (MX11_change z1)
    cases h
    exact Nat.le_refl _
set_option maxHeartbeats 4000000 in
set_option maxRecDepth 100000 in
theorem LL_change {G : wkG} {α : Nat → Nat} {F : Nat} {S : wPS} {Ln Ln1 : Nat → Nat} {V V1 : mV} {v : Int64} {Φ : (Int64 → wPS → Prop)} {l0Ax : Nat} {l1Ix l1I : Int32} {l2Ix l2I : Int32} {l3Ix l3I : Int32} {l4Ix l4I : Int32} {l5Ix l5I : Int32} {l6Ix l6I : Int32} {l7Ix l7I : Int32} {k0 n0 : Nat} (h : mL_change G F Ln l1I l2I l3I l4I l5I l6I l7I V = some (v, Ln1, V1)) (R : mRel α S Ln V) (el0A : l0Ax = α 0) (el1I : l1Ix = l1I) (el2I : l2Ix = l2I) (el3I : l3Ix = l3I) (el4I : l4Ix = l4I) (el5I : l5Ix = l5I) (el6I : l6Ix = l6I) (el7I : l7Ix = l7I) (hk : (mP Ln - mP Ln1) / 16 ≤ k0) (hn : mP Ln - mP Ln1 ≤ n0) (k : (∀ S1, mRel α S1 Ln1 V1 → mFr α S S1 → Φ v S1)) : rL_change G F k0 n0 l0Ax l1Ix l2Ix l3Ix l4Ix l5Ix l6Ix l7Ix S Φ := by
  have el0A := el0A.symm
  subst el0A
  have el1I := el1I.symm
  subst el1I
  have el2I := el2I.symm
  subst el2I
  have el3I := el3I.symm
  subst el3I
  have el4I := el4I.symm
  subst el4I
  have el5I := el5I.symm
  subst el5I
  have el6I := el6I.symm
  subst el6I
  have el7I := el7I.symm
  subst el7I
  unfold mL_change at h
  unfold rL_change
  rcases mBT_some h with ⟨E6, L7, V7, z0, h⟩ | ⟨v1, L2, V2, hv1, h⟩
  · have m0 : mP L7 ≤ mP Ln := MX11_change z0
    have q0 : mP Ln1 ≤ mP L7 := by
      rcases mIf_some h with ⟨_, h⟩ | ⟨_, h⟩
      · cases h
        exact Nat.le_refl _
      · rcases mIf_some h with ⟨_, h⟩ | ⟨_, h⟩
        · cases h
          exact Nat.le_refl _
        · rcases mIf_some h with ⟨_, h⟩ | ⟨_, h⟩
          · cases h
            exact Nat.le_refl _
          · rcases mIf_some h with ⟨_, h⟩ | ⟨_, h⟩
            · cases h
              exact Nat.le_refl _
            · cases h
    refine ⟨(mP Ln - mP L7) / 16, mP Ln - mP L7, by omega, by omega, ?_⟩
    refine LX11_change_E z0 R rfl rfl rfl rfl rfl rfl rfl rfl (by omega) (by omega) (fun S7 R7 F7 => ?_)
    refine mIf h Iff.rfl (fun c2 h => ?_) (fun c2 h => ?_)
    · obtain ⟨rfl, rfl, rfl⟩ := mRA3 h
      exact k _ R7 F7
    · refine mIf h Iff.rfl (fun c3 h => ?_) (fun c3 h => ?_)
      · obtain ⟨rfl, rfl, rfl⟩ := mRA3 h
        exact k _ R7 F7
      · refine mIf h Iff.rfl (fun c4 h => ?_) (fun c4 h => ?_)
        · obtain ⟨rfl, rfl, rfl⟩ := mRA3 h
          exact k _ R7 F7
        · refine mIf h Iff.rfl (fun c5 h => ?_) (fun c5 h => ?_)
          · obtain ⟨rfl, rfl, rfl⟩ := mRA3 h
            exact k _ R7 F7
          · cases h
  · have mv1 : mP L2 ≤ mP Ln := MX11_change hv1
    have qv1 : mP Ln1 ≤ mP L2 := by
      cases h
      exact Nat.le_refl _
    refine ⟨(mP Ln - mP L2) / 16, mP Ln - mP L2, by omega, by omega, ?_⟩
    refine LX11_change_V hv1 R rfl rfl rfl rfl rfl rfl rfl rfl (by omega) (by omega) (fun S2 R2 F2 => ?_)
    obtain ⟨rfl, rfl, rfl⟩ := mRA3 h
    exact k _ R2 F2
def mL_kindOf (G : wkG) (F : Nat) (Ln : Nat → Nat) (l1I : Int32) (V : mV) : Option (Int64 × (Nat → Nat) × mV) :=
  (mBT (mX11_kindOf F Ln (l1I) V) (fun v1 L2 V2 => some ((Int32.toInt64 v1), L2, V2)) (fun E6 L7 V7 => (if E6 = "java/lang/IndexOutOfBoundsException" then some ((-4000000000000000001 : Int64), L7, V7) else none)))
set_option maxHeartbeats 4000000 in
set_option maxRecDepth 100000 in
theorem ML_kindOf {G : wkG} {F : Nat} {Ln Ln1 : Nat → Nat} {V V1 : mV} {v : Int64} {l1I : Int32} (h : mL_kindOf G F Ln l1I V = some (v, Ln1, V1)) : mP Ln1 ≤ mP Ln := by
  unfold mL_kindOf at h
  rcases mBT_some h with ⟨_, _, _, z1, h⟩ | ⟨_, _, _, z1, h⟩
  · refine Nat.le_trans ?_ (MX11_kindOf z1)
    rcases mIf_some h with ⟨_, h⟩ | ⟨_, h⟩
    · cases h
      exact Nat.le_refl _
    · cases h
  · refine Nat.le_trans ?_ (MX11_kindOf z1)
    cases h
    exact Nat.le_refl _
set_option maxHeartbeats 4000000 in
set_option maxRecDepth 100000 in
theorem LL_kindOf {G : wkG} {α : Nat → Nat} {F : Nat} {S : wPS} {Ln Ln1 : Nat → Nat} {V V1 : mV} {v : Int64} {Φ : (Int64 → wPS → Prop)} {l0Ax : Nat} {l1Ix l1I : Int32} {k0 n0 : Nat} (h : mL_kindOf G F Ln l1I V = some (v, Ln1, V1)) (R : mRel α S Ln V) (el0A : l0Ax = α 0) (el1I : l1Ix = l1I) (hk : (mP Ln - mP Ln1) / 16 ≤ k0) (hn : mP Ln - mP Ln1 ≤ n0) (k : (∀ S1, mRel α S1 Ln1 V1 → mFr α S S1 → Φ v S1)) : rL_kindOf G F k0 n0 l0Ax l1Ix S Φ := by
  have el0A := el0A.symm
  subst el0A
  have el1I := el1I.symm
  subst el1I
  unfold mL_kindOf at h
  unfold rL_kindOf
  rcases mBT_some h with ⟨E6, L7, V7, z0, h⟩ | ⟨v1, L2, V2, hv1, h⟩
  · have m0 : mP L7 ≤ mP Ln := MX11_kindOf z0
    have q0 : mP Ln1 ≤ mP L7 := by
      rcases mIf_some h with ⟨_, h⟩ | ⟨_, h⟩
      · cases h
        exact Nat.le_refl _
      · cases h
    refine ⟨(mP Ln - mP L7) / 16, mP Ln - mP L7, by omega, by omega, ?_⟩
    refine LX11_kindOf_E z0 R rfl rfl (by omega) (by omega) (fun S7 R7 F7 => ?_)
    refine mIf h Iff.rfl (fun c2 h => ?_) (fun c2 h => ?_)
    · obtain ⟨rfl, rfl, rfl⟩ := mRA3 h
      exact k _ R7 F7
    · cases h
  · have mv1 : mP L2 ≤ mP Ln := MX11_kindOf hv1
    have qv1 : mP Ln1 ≤ mP L2 := by
      cases h
      exact Nat.le_refl _
    refine ⟨(mP Ln - mP L2) / 16, mP Ln - mP L2, by omega, by omega, ?_⟩
    refine LX11_kindOf_V hv1 R rfl rfl (by omega) (by omega) (fun S2 R2 F2 => ?_)
    obtain ⟨rfl, rfl, rfl⟩ := mRA3 h
    exact k _ R2 F2
def mL_open (G : wkG) (F : Nat) (Ln : Nat → Nat) (l1I : Int32) (l2I : Int32) (l3I : Int32) (V : mV) : Option (Int64 × (Nat → Nat) × mV) :=
  (mBT (mX11_open F Ln (l1I) (l2I) (l3I) V) (fun v1 L2 V2 => some ((Int32.toInt64 v1), L2, V2)) (fun E6 L7 V7 => (if E6 = "java/lang/IllegalArgumentException" then some ((-4000000000000000001 : Int64), L7, V7) else (if E6 = "java/lang/IllegalStateException" then some ((-4000000000000000002 : Int64), L7, V7) else none))))
set_option maxHeartbeats 4000000 in
set_option maxRecDepth 100000 in
theorem ML_open {G : wkG} {F : Nat} {Ln Ln1 : Nat → Nat} {V V1 : mV} {v : Int64} {l1I : Int32} {l2I : Int32} {l3I : Int32} (h : mL_open G F Ln l1I l2I l3I V = some (v, Ln1, V1)) : mP Ln1 ≤ mP Ln := by
  unfold mL_open at h
  rcases mBT_some h with ⟨_, _, _, z1, h⟩ | ⟨_, _, _, z1, h⟩
  · refine Nat.le_trans ?_ (MX11_open z1)
    rcases mIf_some h with ⟨_, h⟩ | ⟨_, h⟩
    · cases h
      exact Nat.le_refl _
    · rcases mIf_some h with ⟨_, h⟩ | ⟨_, h⟩
      · cases h
        exact Nat.le_refl _
      · cases h
  · refine Nat.le_trans ?_ (MX11_open z1)
    cases h
    exact Nat.le_refl _
set_option maxHeartbeats 4000000 in
set_option maxRecDepth 100000 in
theorem LL_open {G : wkG} {α : Nat → Nat} {F : Nat} {S : wPS} {Ln Ln1 : Nat → Nat} {V V1 : mV} {v : Int64} {Φ : (Int64 → wPS → Prop)} {l0Ax : Nat} {l1Ix l1I : Int32} {l2Ix l2I : Int32} {l3Ix l3I : Int32} {k0 n0 : Nat} (h : mL_open G F Ln l1I l2I l3I V = some (v, Ln1, V1)) (R : mRel α S Ln V) (el0A : l0Ax = α 0) (el1I : l1Ix = l1I) (el2I : l2Ix = l2I) (el3I : l3Ix = l3I) (hk : (mP Ln - mP Ln1) / 16 ≤ k0) (hn : mP Ln - mP Ln1 ≤ n0) (k : (∀ S1, mRel α S1 Ln1 V1 → mFr α S S1 → Φ v S1)) : rL_open G F k0 n0 l0Ax l1Ix l2Ix l3Ix S Φ := by
  have el0A := el0A.symm
  subst el0A
  have el1I := el1I.symm
  subst el1I
  have el2I := el2I.symm
  subst el2I
  have el3I := el3I.symm
  subst el3I
  unfold mL_open at h
  unfold rL_open
  rcases mBT_some h with ⟨E6, L7, V7, z0, h⟩ | ⟨v1, L2, V2, hv1, h⟩
  · have m0 : mP L7 ≤ mP Ln := MX11_open z0
    have q0 : mP Ln1 ≤ mP L7 := by
      rcases mIf_some h with ⟨_, h⟩ | ⟨_, h⟩
      · cases h
        exact Nat.le_refl _
      · rcases mIf_some h with ⟨_, h⟩ | ⟨_, h⟩
        · cases h
          exact Nat.le_refl _
        · cases h
    refine ⟨(mP Ln - mP L7) / 16, mP Ln - mP L7, by omega, by omega, ?_⟩
    refine LX11_open_E z0 R rfl rfl rfl rfl (by omega) (by omega) (fun S7 R7 F7 => ?_)
    refine mIf h Iff.rfl (fun c2 h => ?_) (fun c2 h => ?_)
    · obtain ⟨rfl, rfl, rfl⟩ := mRA3 h
      exact k _ R7 F7
    · refine mIf h Iff.rfl (fun c3 h => ?_) (fun c3 h => ?_)
      · obtain ⟨rfl, rfl, rfl⟩ := mRA3 h
        exact k _ R7 F7
      · cases h
  · have mv1 : mP L2 ≤ mP Ln := MX11_open hv1
    have qv1 : mP Ln1 ≤ mP L2 := by
      cases h
      exact Nat.le_refl _
    refine ⟨(mP Ln - mP L2) / 16, mP Ln - mP L2, by omega, by omega, ?_⟩
    refine LX11_open_V hv1 R rfl rfl rfl rfl (by omega) (by omega) (fun S2 R2 F2 => ?_)
    obtain ⟨rfl, rfl, rfl⟩ := mRA3 h
    exact k _ R2 F2
def mL_setBound (G : wkG) (F : Nat) (Ln : Nat → Nat) (l1I : Int32) (l2I : Int32) (V : mV) : Option (Int64 × (Nat → Nat) × mV) :=
  (mBT (mX11_setBound F Ln (l1I) (l2I) V) (fun v1 L2 V2 => some ((Int32.toInt64 v1), L2, V2)) (fun E6 L7 V7 => (if E6 = "java/lang/IndexOutOfBoundsException" then some ((-4000000000000000001 : Int64), L7, V7) else (if E6 = "java/lang/IllegalArgumentException" then some ((-4000000000000000002 : Int64), L7, V7) else none))))
set_option maxHeartbeats 4000000 in
set_option maxRecDepth 100000 in
theorem ML_setBound {G : wkG} {F : Nat} {Ln Ln1 : Nat → Nat} {V V1 : mV} {v : Int64} {l1I : Int32} {l2I : Int32} (h : mL_setBound G F Ln l1I l2I V = some (v, Ln1, V1)) : mP Ln1 ≤ mP Ln := by
  unfold mL_setBound at h
  rcases mBT_some h with ⟨_, _, _, z1, h⟩ | ⟨_, _, _, z1, h⟩
  · refine Nat.le_trans ?_ (MX11_setBound z1)
    rcases mIf_some h with ⟨_, h⟩ | ⟨_, h⟩
    · cases h
      exact Nat.le_refl _
    · rcases mIf_some h with ⟨_, h⟩ | ⟨_, h⟩
      · cases h
        exact Nat.le_refl _
      · cases h
  · refine Nat.le_trans ?_ (MX11_setBound z1)
    cases h
    exact Nat.le_refl _
set_option maxHeartbeats 4000000 in
set_option maxRecDepth 100000 in
theorem LL_setBound {G : wkG} {α : Nat → Nat} {F : Nat} {S : wPS} {Ln Ln1 : Nat → Nat} {V V1 : mV} {v : Int64} {Φ : (Int64 → wPS → Prop)} {l0Ax : Nat} {l1Ix l1I : Int32} {l2Ix l2I : Int32} {k0 n0 : Nat} (h : mL_setBound G F Ln l1I l2I V = some (v, Ln1, V1)) (R : mRel α S Ln V) (el0A : l0Ax = α 0) (el1I : l1Ix = l1I) (el2I : l2Ix = l2I) (hk : (mP Ln - mP Ln1) / 16 ≤ k0) (hn : mP Ln - mP Ln1 ≤ n0) (k : (∀ S1, mRel α S1 Ln1 V1 → mFr α S S1 → Φ v S1)) : rL_setBound G F k0 n0 l0Ax l1Ix l2Ix S Φ := by
  have el0A := el0A.symm
  subst el0A
  have el1I := el1I.symm
  subst el1I
  have el2I := el2I.symm
  subst el2I
  unfold mL_setBound at h
  unfold rL_setBound
  rcases mBT_some h with ⟨E6, L7, V7, z0, h⟩ | ⟨v1, L2, V2, hv1, h⟩
  · have m0 : mP L7 ≤ mP Ln := MX11_setBound z0
    have q0 : mP Ln1 ≤ mP L7 := by
      rcases mIf_some h with ⟨_, h⟩ | ⟨_, h⟩
      · cases h
        exact Nat.le_refl _
      · rcases mIf_some h with ⟨_, h⟩ | ⟨_, h⟩
        · cases h
          exact Nat.le_refl _
        · cases h
    refine ⟨(mP Ln - mP L7) / 16, mP Ln - mP L7, by omega, by omega, ?_⟩
    refine LX11_setBound_E z0 R rfl rfl rfl (by omega) (by omega) (fun S7 R7 F7 => ?_)
    refine mIf h Iff.rfl (fun c2 h => ?_) (fun c2 h => ?_)
    · obtain ⟨rfl, rfl, rfl⟩ := mRA3 h
      exact k _ R7 F7
    · refine mIf h Iff.rfl (fun c3 h => ?_) (fun c3 h => ?_)
      · obtain ⟨rfl, rfl, rfl⟩ := mRA3 h
        exact k _ R7 F7
      · cases h
  · have mv1 : mP L2 ≤ mP Ln := MX11_setBound hv1
    have qv1 : mP Ln1 ≤ mP L2 := by
      cases h
      exact Nat.le_refl _
    refine ⟨(mP Ln - mP L2) / 16, mP Ln - mP L2, by omega, by omega, ?_⟩
    refine LX11_setBound_V hv1 R rfl rfl rfl (by omega) (by omega) (fun S2 R2 F2 => ?_)
    obtain ⟨rfl, rfl, rfl⟩ := mRA3 h
    exact k _ R2 F2
def mL_lean (G : wkG) (F : Nat) (Ln : Nat → Nat) (l1I : Int32) (l2I : Int32) (l3I : Int32) (V : mV) : Option (Int64 × (Nat → Nat) × mV) :=
  (mBT (mX11_lean F Ln (l1I) (l2I) (l3I) V) (fun v1 L2 V2 => some ((Int32.toInt64 v1), L2, V2)) (fun E6 L7 V7 => (if E6 = "java/lang/IndexOutOfBoundsException" then some ((-4000000000000000001 : Int64), L7, V7) else (if E6 = "java/lang/IllegalArgumentException" then some ((-4000000000000000002 : Int64), L7, V7) else (if E6 = "java/lang/UnsupportedOperationException" then some ((-4000000000000000003 : Int64), L7, V7) else none)))))
set_option maxHeartbeats 4000000 in
set_option maxRecDepth 100000 in
theorem ML_lean {G : wkG} {F : Nat} {Ln Ln1 : Nat → Nat} {V V1 : mV} {v : Int64} {l1I : Int32} {l2I : Int32} {l3I : Int32} (h : mL_lean G F Ln l1I l2I l3I V = some (v, Ln1, V1)) : mP Ln1 ≤ mP Ln := by
  unfold mL_lean at h
  rcases mBT_some h with ⟨_, _, _, z1, h⟩ | ⟨_, _, _, z1, h⟩
  · refine Nat.le_trans ?_ (MX11_lean z1)
    rcases mIf_some h with ⟨_, h⟩ | ⟨_, h⟩
    · cases h
      exact Nat.le_refl _
    · rcases mIf_some h with ⟨_, h⟩ | ⟨_, h⟩
      · cases h
        exact Nat.le_refl _
      · rcases mIf_some h with ⟨_, h⟩ | ⟨_, h⟩
        · cases h
          exact Nat.le_refl _
        · cases h
  · refine Nat.le_trans ?_ (MX11_lean z1)
    cases h
    exact Nat.le_refl _
set_option maxHeartbeats 4000000 in
set_option maxRecDepth 100000 in
theorem LL_lean {G : wkG} {α : Nat → Nat} {F : Nat} {S : wPS} {Ln Ln1 : Nat → Nat} {V V1 : mV} {v : Int64} {Φ : (Int64 → wPS → Prop)} {l0Ax : Nat} {l1Ix l1I : Int32} {l2Ix l2I : Int32} {l3Ix l3I : Int32} {k0 n0 : Nat} (h : mL_lean G F Ln l1I l2I l3I V = some (v, Ln1, V1)) (R : mRel α S Ln V) (el0A : l0Ax = α 0) (el1I : l1Ix = l1I) (el2I : l2Ix = l2I) (el3I : l3Ix = l3I) (hk : (mP Ln - mP Ln1) / 16 ≤ k0) (hn : mP Ln - mP Ln1 ≤ n0) (k : (∀ S1, mRel α S1 Ln1 V1 → mFr α S S1 → Φ v S1)) : rL_lean G F k0 n0 l0Ax l1Ix l2Ix l3Ix S Φ := by
  have el0A := el0A.symm
  subst el0A
  have el1I := el1I.symm
  subst el1I
  have el2I := el2I.symm
  subst el2I
  have el3I := el3I.symm
  subst el3I
  unfold mL_lean at h
  unfold rL_lean
  rcases mBT_some h with ⟨E6, L7, V7, z0, h⟩ | ⟨v1, L2, V2, hv1, h⟩
  · have m0 : mP L7 ≤ mP Ln := MX11_lean z0
    have q0 : mP Ln1 ≤ mP L7 := by
      rcases mIf_some h with ⟨_, h⟩ | ⟨_, h⟩
      · cases h
        exact Nat.le_refl _
      · rcases mIf_some h with ⟨_, h⟩ | ⟨_, h⟩
        · cases h
          exact Nat.le_refl _
        · rcases mIf_some h with ⟨_, h⟩ | ⟨_, h⟩
          · cases h
            exact Nat.le_refl _
          · cases h
    refine ⟨(mP Ln - mP L7) / 16, mP Ln - mP L7, by omega, by omega, ?_⟩
    refine LX11_lean_E z0 R rfl rfl rfl rfl (by omega) (by omega) (fun S7 R7 F7 => ?_)
    refine mIf h Iff.rfl (fun c2 h => ?_) (fun c2 h => ?_)
    · obtain ⟨rfl, rfl, rfl⟩ := mRA3 h
      exact k _ R7 F7
    · refine mIf h Iff.rfl (fun c3 h => ?_) (fun c3 h => ?_)
      · obtain ⟨rfl, rfl, rfl⟩ := mRA3 h
        exact k _ R7 F7
      · refine mIf h Iff.rfl (fun c4 h => ?_) (fun c4 h => ?_)
        · obtain ⟨rfl, rfl, rfl⟩ := mRA3 h
          exact k _ R7 F7
        · cases h
  · have mv1 : mP L2 ≤ mP Ln := MX11_lean hv1
    have qv1 : mP Ln1 ≤ mP L2 := by
      cases h
      exact Nat.le_refl _
    refine ⟨(mP Ln - mP L2) / 16, mP Ln - mP L2, by omega, by omega, ?_⟩
    refine LX11_lean_V hv1 R rfl rfl rfl rfl (by omega) (by omega) (fun S2 R2 F2 => ?_)
    obtain ⟨rfl, rfl, rfl⟩ := mRA3 h
    exact k _ R2 F2
def mL_stand (G : wkG) (F : Nat) (Ln : Nat → Nat) (l1I : Int32) (V : mV) : Option (Int64 × (Nat → Nat) × mV) :=
  (mBT (mX11_stand F Ln (l1I) V) (fun v1 L2 V2 => some ((Int32.toInt64 v1), L2, V2)) (fun E6 L7 V7 => (if E6 = "java/lang/IndexOutOfBoundsException" then some ((-4000000000000000001 : Int64), L7, V7) else (if E6 = "java/lang/UnsupportedOperationException" then some ((-4000000000000000002 : Int64), L7, V7) else none))))
set_option maxHeartbeats 4000000 in
set_option maxRecDepth 100000 in
theorem ML_stand {G : wkG} {F : Nat} {Ln Ln1 : Nat → Nat} {V V1 : mV} {v : Int64} {l1I : Int32} (h : mL_stand G F Ln l1I V = some (v, Ln1, V1)) : mP Ln1 ≤ mP Ln := by
  unfold mL_stand at h
  rcases mBT_some h with ⟨_, _, _, z1, h⟩ | ⟨_, _, _, z1, h⟩
  · refine Nat.le_trans ?_ (MX11_stand z1)
    rcases mIf_some h with ⟨_, h⟩ | ⟨_, h⟩
    · cases h
      exact Nat.le_refl _
    · rcases mIf_some h with ⟨_, h⟩ | ⟨_, h⟩
      · cases h
        exact Nat.le_refl _
      · cases h
  · refine Nat.le_trans ?_ (MX11_stand z1)
    cases h
    exact Nat.le_refl _
set_option maxHeartbeats 4000000 in
set_option maxRecDepth 100000 in
theorem LL_stand {G : wkG} {α : Nat → Nat} {F : Nat} {S : wPS} {Ln Ln1 : Nat → Nat} {V V1 : mV} {v : Int64} {Φ : (Int64 → wPS → Prop)} {l0Ax : Nat} {l1Ix l1I : Int32} {k0 n0 : Nat} (h : mL_stand G F Ln l1I V = some (v, Ln1, V1)) (R : mRel α S Ln V) (el0A : l0Ax = α 0) (el1I : l1Ix = l1I) (hk : (mP Ln - mP Ln1) / 16 ≤ k0) (hn : mP Ln - mP Ln1 ≤ n0) (k : (∀ S1, mRel α S1 Ln1 V1 → mFr α S S1 → Φ v S1)) : rL_stand G F k0 n0 l0Ax l1Ix S Φ := by
  have el0A := el0A.symm
  subst el0A
  have el1I := el1I.symm
  subst el1I
  unfold mL_stand at h
  unfold rL_stand
  rcases mBT_some h with ⟨E6, L7, V7, z0, h⟩ | ⟨v1, L2, V2, hv1, h⟩
  · have m0 : mP L7 ≤ mP Ln := MX11_stand z0
    have q0 : mP Ln1 ≤ mP L7 := by
      rcases mIf_some h with ⟨_, h⟩ | ⟨_, h⟩
      · cases h
        exact Nat.le_refl _
      · rcases mIf_some h with ⟨_, h⟩ | ⟨_, h⟩
        · cases h
          exact Nat.le_refl _
        · cases h
    refine ⟨(mP Ln - mP L7) / 16, mP Ln - mP L7, by omega, by omega, ?_⟩
    refine LX11_stand_E z0 R rfl rfl (by omega) (by omega) (fun S7 R7 F7 => ?_)
    refine mIf h Iff.rfl (fun c2 h => ?_) (fun c2 h => ?_)
    · obtain ⟨rfl, rfl, rfl⟩ := mRA3 h
      exact k _ R7 F7
    · refine mIf h Iff.rfl (fun c3 h => ?_) (fun c3 h => ?_)
      · obtain ⟨rfl, rfl, rfl⟩ := mRA3 h
        exact k _ R7 F7
      · cases h
  · have mv1 : mP L2 ≤ mP Ln := MX11_stand hv1
    have qv1 : mP Ln1 ≤ mP L2 := by
      cases h
      exact Nat.le_refl _
    refine ⟨(mP Ln - mP L2) / 16, mP Ln - mP L2, by omega, by omega, ?_⟩
    refine LX11_stand_V hv1 R rfl rfl (by omega) (by omega) (fun S2 R2 F2 => ?_)
    obtain ⟨rfl, rfl, rfl⟩ := mRA3 h
    exact k _ R2 F2
def mL_carry (G : wkG) (F : Nat) (Ln : Nat → Nat) (l1I : Int32) (l2I : Int32) (V : mV) : Option (Int64 × (Nat → Nat) × mV) :=
  (mBT (mX11_carry F Ln (l1I) (l2I) V) (fun v1 L2 V2 => some ((Int32.toInt64 v1), L2, V2)) (fun E6 L7 V7 => (if E6 = "java/lang/IndexOutOfBoundsException" then some ((-4000000000000000001 : Int64), L7, V7) else (if E6 = "java/lang/IllegalArgumentException" then some ((-4000000000000000002 : Int64), L7, V7) else (if E6 = "java/lang/UnsupportedOperationException" then some ((-4000000000000000003 : Int64), L7, V7) else (if E6 = "java/lang/IllegalStateException" then some ((-4000000000000000004 : Int64), L7, V7) else none))))))
set_option maxHeartbeats 4000000 in
set_option maxRecDepth 100000 in
theorem ML_carry {G : wkG} {F : Nat} {Ln Ln1 : Nat → Nat} {V V1 : mV} {v : Int64} {l1I : Int32} {l2I : Int32} (h : mL_carry G F Ln l1I l2I V = some (v, Ln1, V1)) : mP Ln1 ≤ mP Ln := by
  unfold mL_carry at h
  rcases mBT_some h with ⟨_, _, _, z1, h⟩ | ⟨_, _, _, z1, h⟩
  · refine Nat.le_trans ?_ (MX11_carry z1)
    rcases mIf_some h with ⟨_, h⟩ | ⟨_, h⟩
    · cases h
      exact Nat.le_refl _
    · rcases mIf_some h with ⟨_, h⟩ | ⟨_, h⟩
      · cases h
        exact Nat.le_refl _
      · rcases mIf_some h with ⟨_, h⟩ | ⟨_, h⟩
        · cases h
          exact Nat.le_refl _
        · rcases mIf_some h with ⟨_, h⟩ | ⟨_, h⟩
          · cases h
            exact Nat.le_refl _
          · cases h
  · refine Nat.le_trans ?_ (MX11_carry z1)
    cases h
    exact Nat.le_refl _
set_option maxHeartbeats 4000000 in
set_option maxRecDepth 100000 in
theorem LL_carry {G : wkG} {α : Nat → Nat} {F : Nat} {S : wPS} {Ln Ln1 : Nat → Nat} {V V1 : mV} {v : Int64} {Φ : (Int64 → wPS → Prop)} {l0Ax : Nat} {l1Ix l1I : Int32} {l2Ix l2I : Int32} {k0 n0 : Nat} (h : mL_carry G F Ln l1I l2I V = some (v, Ln1, V1)) (R : mRel α S Ln V) (el0A : l0Ax = α 0) (el1I : l1Ix = l1I) (el2I : l2Ix = l2I) (hk : (mP Ln - mP Ln1) / 16 ≤ k0) (hn : mP Ln - mP Ln1 ≤ n0) (k : (∀ S1, mRel α S1 Ln1 V1 → mFr α S S1 → Φ v S1)) : rL_carry G F k0 n0 l0Ax l1Ix l2Ix S Φ := by
  have el0A := el0A.symm
  subst el0A
  have el1I := el1I.symm
  subst el1I
  have el2I := el2I.symm
  subst el2I
  unfold mL_carry at h
  unfold rL_carry
  rcases mBT_some h with ⟨E6, L7, V7, z0, h⟩ | ⟨v1, L2, V2, hv1, h⟩
  · have m0 : mP L7 ≤ mP Ln := MX11_carry z0
    have q0 : mP Ln1 ≤ mP L7 := by
      rcases mIf_some h with ⟨_, h⟩ | ⟨_, h⟩
      · cases h
        exact Nat.le_refl _
      · rcases mIf_some h with ⟨_, h⟩ | ⟨_, h⟩
        · cases h
          exact Nat.le_refl _
        · rcases mIf_some h with ⟨_, h⟩ | ⟨_, h⟩
          · cases h
            exact Nat.le_refl _
          · rcases mIf_some h with ⟨_, h⟩ | ⟨_, h⟩
            · cases h
              exact Nat.le_refl _
            · cases h
    refine ⟨(mP Ln - mP L7) / 16, mP Ln - mP L7, by omega, by omega, ?_⟩
    refine LX11_carry_E z0 R rfl rfl rfl (by omega) (by omega) (fun S7 R7 F7 => ?_)
    refine mIf h Iff.rfl (fun c2 h => ?_) (fun c2 h => ?_)
    · obtain ⟨rfl, rfl, rfl⟩ := mRA3 h
      exact k _ R7 F7
    · refine mIf h Iff.rfl (fun c3 h => ?_) (fun c3 h => ?_)
      · obtain ⟨rfl, rfl, rfl⟩ := mRA3 h
        exact k _ R7 F7
      · refine mIf h Iff.rfl (fun c4 h => ?_) (fun c4 h => ?_)
        · obtain ⟨rfl, rfl, rfl⟩ := mRA3 h
          exact k _ R7 F7
        · refine mIf h Iff.rfl (fun c5 h => ?_) (fun c5 h => ?_)
          · obtain ⟨rfl, rfl, rfl⟩ := mRA3 h
            exact k _ R7 F7
          · cases h
  · have mv1 : mP L2 ≤ mP Ln := MX11_carry hv1
    have qv1 : mP Ln1 ≤ mP L2 := by
      cases h
      exact Nat.le_refl _
    refine ⟨(mP Ln - mP L2) / 16, mP Ln - mP L2, by omega, by omega, ?_⟩
    refine LX11_carry_V hv1 R rfl rfl rfl (by omega) (by omega) (fun S2 R2 F2 => ?_)
    obtain ⟨rfl, rfl, rfl⟩ := mRA3 h
    exact k _ R2 F2
def mL_boundOf (G : wkG) (F : Nat) (Ln : Nat → Nat) (l1I : Int32) (V : mV) : Option (Int64 × (Nat → Nat) × mV) :=
  (mBT (mX11_boundOf F Ln (l1I) V) (fun v1 L2 V2 => some ((Int32.toInt64 v1), L2, V2)) (fun E6 L7 V7 => (if E6 = "java/lang/IndexOutOfBoundsException" then some ((-4000000000000000001 : Int64), L7, V7) else none)))
set_option maxHeartbeats 4000000 in
set_option maxRecDepth 100000 in
theorem ML_boundOf {G : wkG} {F : Nat} {Ln Ln1 : Nat → Nat} {V V1 : mV} {v : Int64} {l1I : Int32} (h : mL_boundOf G F Ln l1I V = some (v, Ln1, V1)) : mP Ln1 ≤ mP Ln := by
  unfold mL_boundOf at h
  rcases mBT_some h with ⟨_, _, _, z1, h⟩ | ⟨_, _, _, z1, h⟩
  · refine Nat.le_trans ?_ (MX11_boundOf z1)
    rcases mIf_some h with ⟨_, h⟩ | ⟨_, h⟩
    · cases h
      exact Nat.le_refl _
    · cases h
  · refine Nat.le_trans ?_ (MX11_boundOf z1)
    cases h
    exact Nat.le_refl _
set_option maxHeartbeats 4000000 in
set_option maxRecDepth 100000 in
theorem LL_boundOf {G : wkG} {α : Nat → Nat} {F : Nat} {S : wPS} {Ln Ln1 : Nat → Nat} {V V1 : mV} {v : Int64} {Φ : (Int64 → wPS → Prop)} {l0Ax : Nat} {l1Ix l1I : Int32} {k0 n0 : Nat} (h : mL_boundOf G F Ln l1I V = some (v, Ln1, V1)) (R : mRel α S Ln V) (el0A : l0Ax = α 0) (el1I : l1Ix = l1I) (hk : (mP Ln - mP Ln1) / 16 ≤ k0) (hn : mP Ln - mP Ln1 ≤ n0) (k : (∀ S1, mRel α S1 Ln1 V1 → mFr α S S1 → Φ v S1)) : rL_boundOf G F k0 n0 l0Ax l1Ix S Φ := by
  have el0A := el0A.symm
  subst el0A
  have el1I := el1I.symm
  subst el1I
  unfold mL_boundOf at h
  unfold rL_boundOf
  rcases mBT_some h with ⟨E6, L7, V7, z0, h⟩ | ⟨v1, L2, V2, hv1, h⟩
  · have m0 : mP L7 ≤ mP Ln := MX11_boundOf z0
    have q0 : mP Ln1 ≤ mP L7 := by
      rcases mIf_some h with ⟨_, h⟩ | ⟨_, h⟩
      · cases h
        exact Nat.le_refl _
      · cases h
    refine ⟨(mP Ln - mP L7) / 16, mP Ln - mP L7, by omega, by omega, ?_⟩
    refine LX11_boundOf_E z0 R rfl rfl (by omega) (by omega) (fun S7 R7 F7 => ?_)
    refine mIf h Iff.rfl (fun c2 h => ?_) (fun c2 h => ?_)
    · obtain ⟨rfl, rfl, rfl⟩ := mRA3 h
      exact k _ R7 F7
    · cases h
  · have mv1 : mP L2 ≤ mP Ln := MX11_boundOf hv1
    have qv1 : mP Ln1 ≤ mP L2 := by
      cases h
      exact Nat.le_refl _
    refine ⟨(mP Ln - mP L2) / 16, mP Ln - mP L2, by omega, by omega, ?_⟩
    refine LX11_boundOf_V hv1 R rfl rfl (by omega) (by omega) (fun S2 R2 F2 => ?_)
    obtain ⟨rfl, rfl, rfl⟩ := mRA3 h
    exact k _ R2 F2
def mL_answer (G : wkG) (F : Nat) (Ln : Nat → Nat) (l1I : Int32) (V : mV) : Option (Int64 × (Nat → Nat) × mV) :=
  (mBT (mX11_answer F Ln (l1I) V) (fun v1 L2 V2 => some ((Int32.toInt64 v1), L2, V2)) (fun E6 L7 V7 => (if E6 = "java/lang/IndexOutOfBoundsException" then some ((-4000000000000000001 : Int64), L7, V7) else none)))
set_option maxHeartbeats 4000000 in
set_option maxRecDepth 100000 in
theorem ML_answer {G : wkG} {F : Nat} {Ln Ln1 : Nat → Nat} {V V1 : mV} {v : Int64} {l1I : Int32} (h : mL_answer G F Ln l1I V = some (v, Ln1, V1)) : mP Ln1 ≤ mP Ln := by
  unfold mL_answer at h
  rcases mBT_some h with ⟨_, _, _, z1, h⟩ | ⟨_, _, _, z1, h⟩
  · refine Nat.le_trans ?_ (MX11_answer z1)
    rcases mIf_some h with ⟨_, h⟩ | ⟨_, h⟩
    · cases h
      exact Nat.le_refl _
    · cases h
  · refine Nat.le_trans ?_ (MX11_answer z1)
    cases h
    exact Nat.le_refl _
set_option maxHeartbeats 4000000 in
set_option maxRecDepth 100000 in
theorem LL_answer {G : wkG} {α : Nat → Nat} {F : Nat} {S : wPS} {Ln Ln1 : Nat → Nat} {V V1 : mV} {v : Int64} {Φ : (Int64 → wPS → Prop)} {l0Ax : Nat} {l1Ix l1I : Int32} {k0 n0 : Nat} (h : mL_answer G F Ln l1I V = some (v, Ln1, V1)) (R : mRel α S Ln V) (el0A : l0Ax = α 0) (el1I : l1Ix = l1I) (hk : (mP Ln - mP Ln1) / 16 ≤ k0) (hn : mP Ln - mP Ln1 ≤ n0) (k : (∀ S1, mRel α S1 Ln1 V1 → mFr α S S1 → Φ v S1)) : rL_answer G F k0 n0 l0Ax l1Ix S Φ := by
  have el0A := el0A.symm
  subst el0A
  have el1I := el1I.symm
  subst el1I
  unfold mL_answer at h
  unfold rL_answer
  rcases mBT_some h with ⟨E6, L7, V7, z0, h⟩ | ⟨v1, L2, V2, hv1, h⟩
  · have m0 : mP L7 ≤ mP Ln := MX11_answer z0
    have q0 : mP Ln1 ≤ mP L7 := by
      rcases mIf_some h with ⟨_, h⟩ | ⟨_, h⟩
      · cases h
        exact Nat.le_refl _
      · cases h
    refine ⟨(mP Ln - mP L7) / 16, mP Ln - mP L7, by omega, by omega, ?_⟩
    refine LX11_answer_E z0 R rfl rfl (by omega) (by omega) (fun S7 R7 F7 => ?_)
    refine mIf h Iff.rfl (fun c2 h => ?_) (fun c2 h => ?_)
    · obtain ⟨rfl, rfl, rfl⟩ := mRA3 h
      exact k _ R7 F7
    · cases h
  · have mv1 : mP L2 ≤ mP Ln := MX11_answer hv1
    have qv1 : mP Ln1 ≤ mP L2 := by
      cases h
      exact Nat.le_refl _
    refine ⟨(mP Ln - mP L2) / 16, mP Ln - mP L2, by omega, by omega, ?_⟩
    refine LX11_answer_V hv1 R rfl rfl (by omega) (by omega) (fun S2 R2 F2 => ?_)
    obtain ⟨rfl, rfl, rfl⟩ := mRA3 h
    exact k _ R2 F2
def mL_number (G : wkG) (F : Nat) (Ln : Nat → Nat) (l1I : Int32) (V : mV) : Option (Int64 × (Nat → Nat) × mV) :=
  (mBT (mX11_number F Ln (l1I) V) (fun v1 L2 V2 => some ((Int32.toInt64 v1), L2, V2)) (fun E6 L7 V7 => (if E6 = "java/lang/IndexOutOfBoundsException" then some ((-4000000000000000001 : Int64), L7, V7) else none)))
set_option maxHeartbeats 4000000 in
set_option maxRecDepth 100000 in
theorem ML_number {G : wkG} {F : Nat} {Ln Ln1 : Nat → Nat} {V V1 : mV} {v : Int64} {l1I : Int32} (h : mL_number G F Ln l1I V = some (v, Ln1, V1)) : mP Ln1 ≤ mP Ln := by
  unfold mL_number at h
  rcases mBT_some h with ⟨_, _, _, z1, h⟩ | ⟨_, _, _, z1, h⟩
  · refine Nat.le_trans ?_ (MX11_number z1)
    rcases mIf_some h with ⟨_, h⟩ | ⟨_, h⟩
    · cases h
      exact Nat.le_refl _
    · cases h
  · refine Nat.le_trans ?_ (MX11_number z1)
    cases h
    exact Nat.le_refl _
set_option maxHeartbeats 4000000 in
set_option maxRecDepth 100000 in
theorem LL_number {G : wkG} {α : Nat → Nat} {F : Nat} {S : wPS} {Ln Ln1 : Nat → Nat} {V V1 : mV} {v : Int64} {Φ : (Int64 → wPS → Prop)} {l0Ax : Nat} {l1Ix l1I : Int32} {k0 n0 : Nat} (h : mL_number G F Ln l1I V = some (v, Ln1, V1)) (R : mRel α S Ln V) (el0A : l0Ax = α 0) (el1I : l1Ix = l1I) (hk : (mP Ln - mP Ln1) / 16 ≤ k0) (hn : mP Ln - mP Ln1 ≤ n0) (k : (∀ S1, mRel α S1 Ln1 V1 → mFr α S S1 → Φ v S1)) : rL_number G F k0 n0 l0Ax l1Ix S Φ := by
  have el0A := el0A.symm
  subst el0A
  have el1I := el1I.symm
  subst el1I
  unfold mL_number at h
  unfold rL_number
  rcases mBT_some h with ⟨E6, L7, V7, z0, h⟩ | ⟨v1, L2, V2, hv1, h⟩
  · have m0 : mP L7 ≤ mP Ln := MX11_number z0
    have q0 : mP Ln1 ≤ mP L7 := by
      rcases mIf_some h with ⟨_, h⟩ | ⟨_, h⟩
      · cases h
        exact Nat.le_refl _
      · cases h
    refine ⟨(mP Ln - mP L7) / 16, mP Ln - mP L7, by omega, by omega, ?_⟩
    refine LX11_number_E z0 R rfl rfl (by omega) (by omega) (fun S7 R7 F7 => ?_)
    refine mIf h Iff.rfl (fun c2 h => ?_) (fun c2 h => ?_)
    · obtain ⟨rfl, rfl, rfl⟩ := mRA3 h
      exact k _ R7 F7
    · cases h
  · have mv1 : mP L2 ≤ mP Ln := MX11_number hv1
    have qv1 : mP Ln1 ≤ mP L2 := by
      cases h
      exact Nat.le_refl _
    refine ⟨(mP Ln - mP L2) / 16, mP Ln - mP L2, by omega, by omega, ?_⟩
    refine LX11_number_V hv1 R rfl rfl (by omega) (by omega) (fun S2 R2 F2 => ?_)
    obtain ⟨rfl, rfl, rfl⟩ := mRA3 h
    exact k _ R2 F2
def mL_length (G : wkG) (F : Nat) (Ln : Nat → Nat) (l1I : Int32) (V : mV) : Option (Int64 × (Nat → Nat) × mV) :=
  (mBT (mX11_length F Ln (l1I) V) (fun v1 L2 V2 => some ((Int32.toInt64 v1), L2, V2)) (fun E6 L7 V7 => (if E6 = "java/lang/IndexOutOfBoundsException" then some ((-4000000000000000001 : Int64), L7, V7) else none)))
set_option maxHeartbeats 4000000 in
set_option maxRecDepth 100000 in
theorem ML_length {G : wkG} {F : Nat} {Ln Ln1 : Nat → Nat} {V V1 : mV} {v : Int64} {l1I : Int32} (h : mL_length G F Ln l1I V = some (v, Ln1, V1)) : mP Ln1 ≤ mP Ln := by
  unfold mL_length at h
  rcases mBT_some h with ⟨_, _, _, z1, h⟩ | ⟨_, _, _, z1, h⟩
  · refine Nat.le_trans ?_ (MX11_length z1)
    rcases mIf_some h with ⟨_, h⟩ | ⟨_, h⟩
    · cases h
      exact Nat.le_refl _
    · cases h
  · refine Nat.le_trans ?_ (MX11_length z1)
    cases h
    exact Nat.le_refl _
set_option maxHeartbeats 4000000 in
set_option maxRecDepth 100000 in
theorem LL_length {G : wkG} {α : Nat → Nat} {F : Nat} {S : wPS} {Ln Ln1 : Nat → Nat} {V V1 : mV} {v : Int64} {Φ : (Int64 → wPS → Prop)} {l0Ax : Nat} {l1Ix l1I : Int32} {k0 n0 : Nat} (h : mL_length G F Ln l1I V = some (v, Ln1, V1)) (R : mRel α S Ln V) (el0A : l0Ax = α 0) (el1I : l1Ix = l1I) (hk : (mP Ln - mP Ln1) / 16 ≤ k0) (hn : mP Ln - mP Ln1 ≤ n0) (k : (∀ S1, mRel α S1 Ln1 V1 → mFr α S S1 → Φ v S1)) : rL_length G F k0 n0 l0Ax l1Ix S Φ := by
  have el0A := el0A.symm
  subst el0A
  have el1I := el1I.symm
  subst el1I
  unfold mL_length at h
  unfold rL_length
  rcases mBT_some h with ⟨E6, L7, V7, z0, h⟩ | ⟨v1, L2, V2, hv1, h⟩
  · have m0 : mP L7 ≤ mP Ln := MX11_length z0
    have q0 : mP Ln1 ≤ mP L7 := by
      rcases mIf_some h with ⟨_, h⟩ | ⟨_, h⟩
      · cases h
        exact Nat.le_refl _
      · cases h
    refine ⟨(mP Ln - mP L7) / 16, mP Ln - mP L7, by omega, by omega, ?_⟩
    refine LX11_length_E z0 R rfl rfl (by omega) (by omega) (fun S7 R7 F7 => ?_)
    refine mIf h Iff.rfl (fun c2 h => ?_) (fun c2 h => ?_)
    · obtain ⟨rfl, rfl, rfl⟩ := mRA3 h
      exact k _ R7 F7
    · cases h
  · have mv1 : mP L2 ≤ mP Ln := MX11_length hv1
    have qv1 : mP Ln1 ≤ mP L2 := by
      cases h
      exact Nat.le_refl _
    refine ⟨(mP Ln - mP L2) / 16, mP Ln - mP L2, by omega, by omega, ?_⟩
    refine LX11_length_V hv1 R rfl rfl (by omega) (by omega) (fun S2 R2 F2 => ?_)
    obtain ⟨rfl, rfl, rfl⟩ := mRA3 h
    exact k _ R2 F2
def mL_rowSum (G : wkG) (F : Nat) (Ln : Nat → Nat) (l1I : Int32) (V : mV) : Option (Int64 × (Nat → Nat) × mV) :=
  (mBT (mX11_rowSum F Ln (l1I) V) (fun v1 L2 V2 => some (v1, L2, V2)) (fun E6 L7 V7 => (if E6 = "java/lang/IndexOutOfBoundsException" then some ((-4000000000000000001 : Int64), L7, V7) else none)))
set_option maxHeartbeats 4000000 in
set_option maxRecDepth 100000 in
theorem ML_rowSum {G : wkG} {F : Nat} {Ln Ln1 : Nat → Nat} {V V1 : mV} {v : Int64} {l1I : Int32} (h : mL_rowSum G F Ln l1I V = some (v, Ln1, V1)) : mP Ln1 ≤ mP Ln := by
  unfold mL_rowSum at h
  rcases mBT_some h with ⟨_, _, _, z1, h⟩ | ⟨_, _, _, z1, h⟩
  · refine Nat.le_trans ?_ (MX11_rowSum z1)
    rcases mIf_some h with ⟨_, h⟩ | ⟨_, h⟩
    · cases h
      exact Nat.le_refl _
    · cases h
  · refine Nat.le_trans ?_ (MX11_rowSum z1)
    cases h
    exact Nat.le_refl _
set_option maxHeartbeats 4000000 in
set_option maxRecDepth 100000 in
theorem LL_rowSum {G : wkG} {α : Nat → Nat} {F : Nat} {S : wPS} {Ln Ln1 : Nat → Nat} {V V1 : mV} {v : Int64} {Φ : (Int64 → wPS → Prop)} {l0Ax : Nat} {l1Ix l1I : Int32} {k0 n0 : Nat} (h : mL_rowSum G F Ln l1I V = some (v, Ln1, V1)) (R : mRel α S Ln V) (el0A : l0Ax = α 0) (el1I : l1Ix = l1I) (hk : (mP Ln - mP Ln1) / 16 ≤ k0) (hn : mP Ln - mP Ln1 ≤ n0) (k : (∀ S1, mRel α S1 Ln1 V1 → mFr α S S1 → Φ v S1)) : rL_rowSum G F k0 n0 l0Ax l1Ix S Φ := by
  have el0A := el0A.symm
  subst el0A
  have el1I := el1I.symm
  subst el1I
  unfold mL_rowSum at h
  unfold rL_rowSum
  rcases mBT_some h with ⟨E6, L7, V7, z0, h⟩ | ⟨v1, L2, V2, hv1, h⟩
  · have m0 : mP L7 ≤ mP Ln := MX11_rowSum z0
    have q0 : mP Ln1 ≤ mP L7 := by
      rcases mIf_some h with ⟨_, h⟩ | ⟨_, h⟩
      · cases h
        exact Nat.le_refl _
      · cases h
    refine ⟨(mP Ln - mP L7) / 16, mP Ln - mP L7, by omega, by omega, ?_⟩
    refine LX11_rowSum_E z0 R rfl rfl (by omega) (by omega) (fun S7 R7 F7 => ?_)
    refine mIf h Iff.rfl (fun c2 h => ?_) (fun c2 h => ?_)
    · obtain ⟨rfl, rfl, rfl⟩ := mRA3 h
      exact k _ R7 F7
    · cases h
  · have mv1 : mP L2 ≤ mP Ln := MX11_rowSum hv1
    have qv1 : mP Ln1 ≤ mP L2 := by
      cases h
      exact Nat.le_refl _
    refine ⟨(mP Ln - mP L2) / 16, mP Ln - mP L2, by omega, by omega, ?_⟩
    refine LX11_rowSum_V hv1 R rfl rfl (by omega) (by omega) (fun S2 R2 F2 => ?_)
    obtain ⟨rfl, rfl, rfl⟩ := mRA3 h
    exact k _ R2 F2
def mL_borrow (G : wkG) (F : Nat) (Ln : Nat → Nat) (l1I : Int32) (V : mV) : Option (Int64 × (Nat → Nat) × mV) :=
  (mBT (mX11_borrow F Ln (l1I) V) (fun v1 L2 V2 => some ((Int32.toInt64 v1), L2, V2)) (fun E6 L7 V7 => (if E6 = "java/lang/IndexOutOfBoundsException" then some ((-4000000000000000001 : Int64), L7, V7) else (if E6 = "java/lang/UnsupportedOperationException" then some ((-4000000000000000002 : Int64), L7, V7) else none))))
set_option maxHeartbeats 4000000 in
set_option maxRecDepth 100000 in
theorem ML_borrow {G : wkG} {F : Nat} {Ln Ln1 : Nat → Nat} {V V1 : mV} {v : Int64} {l1I : Int32} (h : mL_borrow G F Ln l1I V = some (v, Ln1, V1)) : mP Ln1 ≤ mP Ln := by
  unfold mL_borrow at h
  rcases mBT_some h with ⟨_, _, _, z1, h⟩ | ⟨_, _, _, z1, h⟩
  · refine Nat.le_trans ?_ (MX11_borrow z1)
    rcases mIf_some h with ⟨_, h⟩ | ⟨_, h⟩
    · cases h
      exact Nat.le_refl _
    · rcases mIf_some h with ⟨_, h⟩ | ⟨_, h⟩
      · cases h
        exact Nat.le_refl _
      · cases h
  · refine Nat.le_trans ?_ (MX11_borrow z1)
    cases h
    exact Nat.le_refl _
set_option maxHeartbeats 4000000 in
set_option maxRecDepth 100000 in
theorem LL_borrow {G : wkG} {α : Nat → Nat} {F : Nat} {S : wPS} {Ln Ln1 : Nat → Nat} {V V1 : mV} {v : Int64} {Φ : (Int64 → wPS → Prop)} {l0Ax : Nat} {l1Ix l1I : Int32} {k0 n0 : Nat} (h : mL_borrow G F Ln l1I V = some (v, Ln1, V1)) (R : mRel α S Ln V) (el0A : l0Ax = α 0) (el1I : l1Ix = l1I) (hk : (mP Ln - mP Ln1) / 16 ≤ k0) (hn : mP Ln - mP Ln1 ≤ n0) (k : (∀ S1, mRel α S1 Ln1 V1 → mFr α S S1 → Φ v S1)) : rL_borrow G F k0 n0 l0Ax l1Ix S Φ := by
  have el0A := el0A.symm
  subst el0A
  have el1I := el1I.symm
  subst el1I
  unfold mL_borrow at h
  unfold rL_borrow
  rcases mBT_some h with ⟨E6, L7, V7, z0, h⟩ | ⟨v1, L2, V2, hv1, h⟩
  · have m0 : mP L7 ≤ mP Ln := MX11_borrow z0
    have q0 : mP Ln1 ≤ mP L7 := by
      rcases mIf_some h with ⟨_, h⟩ | ⟨_, h⟩
      · cases h
        exact Nat.le_refl _
      · rcases mIf_some h with ⟨_, h⟩ | ⟨_, h⟩
        · cases h
          exact Nat.le_refl _
        · cases h
    refine ⟨(mP Ln - mP L7) / 16, mP Ln - mP L7, by omega, by omega, ?_⟩
    refine LX11_borrow_E z0 R rfl rfl (by omega) (by omega) (fun S7 R7 F7 => ?_)
    refine mIf h Iff.rfl (fun c2 h => ?_) (fun c2 h => ?_)
    · obtain ⟨rfl, rfl, rfl⟩ := mRA3 h
      exact k _ R7 F7
    · refine mIf h Iff.rfl (fun c3 h => ?_) (fun c3 h => ?_)
      · obtain ⟨rfl, rfl, rfl⟩ := mRA3 h
        exact k _ R7 F7
      · cases h
  · have mv1 : mP L2 ≤ mP Ln := MX11_borrow hv1
    have qv1 : mP Ln1 ≤ mP L2 := by
      cases h
      exact Nat.le_refl _
    refine ⟨(mP Ln - mP L2) / 16, mP Ln - mP L2, by omega, by omega, ?_⟩
    refine LX11_borrow_V hv1 R rfl rfl (by omega) (by omega) (fun S2 R2 F2 => ?_)
    obtain ⟨rfl, rfl, rfl⟩ := mRA3 h
    exact k _ R2 F2
end
