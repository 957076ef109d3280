/-! LIFTED BY PROGRAM (lift.py): X11_drop, X11_sizeOf, X11_items, X11_item, X11_cameFrom, X11_type, X11_alter, X11_forgetEntry, X11_standsAlready, J0_length_8abf5, J0_checkIndex_df160, J1_charAt_3b067, J1_indexOf_4cfef. -/
section
def mX11_drop (F : Nat) (Ln : Nat → Nat) (l1I : Int32) (l2I : Int32) (V : mV) : Option ((String ⊕ Int32) × (Nat → Nat) × mV) :=
  (mBT (mX11_entryAt F Ln (l1I) V) (fun v1 L2 V2 => (mBT (mX11_testPlace F L2 (l2I) ((V2.fI v1 6)) V2) (fun v6 L7 V7 => (mBW (mX11_remember F ((100 : Int32)) (l1I) V7) fun v11 V12 => (mBW (mX3_removeItem F v1 (l2I) V12) fun v16 V17 => (mLt (mF V17 v1 9 ((0 : Int32))) fun V21 => some ((.inr ((V21.fI v1 6))), L7, V21))))) (fun E0 L0 V0 => some (.inl E0, L0, V0)))) (fun E0 L0 V0 => some (.inl E0, L0, V0)))
set_option maxHeartbeats 4000000 in
set_option maxRecDepth 100000 in
theorem MX11_drop {F : Nat} {Ln Ln1 : Nat → Nat} {V V1 : mV} {v : (String ⊕ Int32)} {l1I : Int32} {l2I : Int32} (h : mX11_drop F Ln l1I l2I V = some (v, Ln1, V1)) : mP Ln1 ≤ mP Ln := by
  unfold mX11_drop at h
  rcases mBT_some h with ⟨_, _, _, z1, h⟩ | ⟨_, _, _, z1, h⟩
  · cases h
    exact MX11_entryAt z1
  · refine Nat.le_trans ?_ (MX11_entryAt z1)
    rcases mBT_some h with ⟨_, _, _, z2, h⟩ | ⟨_, _, _, z2, h⟩
    · cases h
      exact MX11_testPlace z2
    · refine Nat.le_trans ?_ (MX11_testPlace z2)
      obtain ⟨_, _, _, h⟩ := mBW_some h
      obtain ⟨_, _, _, h⟩ := mBW_some h
      obtain ⟨_, _, h⟩ := mLt_some h
      cases h
      exact Nat.le_refl _
set_option maxHeartbeats 4000000 in
set_option maxRecDepth 100000 in
theorem LX11_drop {α : Nat → Nat} {F : Nat} {S : wPS} {Ln Ln1 : Nat → Nat} {V V1 : mV} {v : (String ⊕ Int32)} {Φ : (Int32 → wPS → Prop)} {Ψ : String → wPS → Prop} {l0Ax : Nat} {l1Ix l1I : Int32} {l2Ix l2I : Int32} {k0 n0 : Nat} (h : mX11_drop F Ln l1I l2I V = some (v, Ln1, V1)) (R : mRel α S Ln V) (el0A : l0Ax = α 0) (el1I : l1Ix = l1I) (el2I : l2Ix = l2I) (hk : (mP Ln - mP Ln1) / 16 ≤ k0) (hn : mP Ln - mP Ln1 ≤ n0) (k : (∀ S1, mRel α S1 Ln1 V1 → mFr α S S1 → mOut Φ Ψ v S1)) : rX11_drop F k0 n0 l0Ax l1Ix l2Ix S Φ Ψ := by
  have el0A := el0A.symm
  subst el0A
  have el1I := el1I.symm
  subst el1I
  have el2I := el2I.symm
  subst el2I
  unfold mX11_drop at h
  unfold rX11_drop
  rcases mBT_some h with ⟨E0, L0, V0, z0, h⟩ | ⟨v1, L2, V2, hv1, h⟩
  · have m0 : mP L0 ≤ mP Ln := MX11_entryAt z0
    obtain ⟨rfl, rfl, rfl⟩ := mRA3 h
    refine ⟨(mP Ln - mP L0) / 16, mP Ln - mP L0, by omega, by omega, ?_⟩
    exact LX11_entryAt_E z0 R rfl rfl (by omega) (by omega) (fun S0 R0 F0 => k S0 R0 F0)
  · have mv1 : mP L2 ≤ mP Ln := MX11_entryAt hv1
    have qv1 : mP Ln1 ≤ mP L2 := by
      rcases mBT_some h with ⟨_, _, _, z3, h⟩ | ⟨_, _, _, z3, h⟩
      · cases h
        exact MX11_testPlace z3
      · refine Nat.le_trans ?_ (MX11_testPlace z3)
        obtain ⟨_, _, _, h⟩ := mBW_some h
        obtain ⟨_, _, _, h⟩ := mBW_some h
        obtain ⟨_, _, h⟩ := mLt_some h
        cases h
        exact Nat.le_refl _
    refine ⟨(mP Ln - mP L2) / 16, mP Ln - mP L2, by omega, by omega, ?_⟩
    refine LX11_entryAt_V hv1 R rfl rfl (by omega) (by omega) (fun S2 R2 F2 sv1 => ?_)
    rcases mBT_some h with ⟨E0, L0, V0, z0, h⟩ | ⟨v6, L7, V7, hv6, h⟩
    · have m0 : mP L0 ≤ mP L2 := MX11_testPlace z0
      obtain ⟨rfl, rfl, rfl⟩ := mRA3 h
      refine ⟨(mP L2 - mP L0) / 16, mP L2 - mP L0, by omega, by omega, ?_⟩
      exact LX11_testPlace_E z0 R2 rfl (by rw [show gEntry_itemCount S2 (α v1) = V2.fI v1 6 from (mg_I (i := v1) R2 (mO3 sv1) rfl 6)]) (by omega) (by omega) (fun S0 R0 F0 => k S0 R0 (F2.tr F0))
    · have mv6 : mP L7 ≤ mP L2 := MX11_testPlace hv6
      have qv6 : mP Ln1 ≤ mP L7 := by
        obtain ⟨_, _, _, h⟩ := mBW_some h
        obtain ⟨_, _, _, h⟩ := mBW_some h
        obtain ⟨_, _, h⟩ := mLt_some h
        cases h
        exact Nat.le_refl _
      refine ⟨(mP L2 - mP L7) / 16, mP L2 - mP L7, by omega, by omega, ?_⟩
      refine LX11_testPlace_V hv6 R2 rfl (by rw [show gEntry_itemCount S2 (α v1) = V2.fI v1 6 from (mg_I (i := v1) R2 (mO3 sv1) rfl 6)]) (by omega) (by omega) (fun S7 R7 F7 => ?_)
      obtain ⟨v11, V12, hv11, h⟩ := mBW_some h
      refine LX11_remember hv11 R7 rfl rfl rfl (fun S12 R12 F12 => ?_)
      obtain ⟨v16, V17, hv16, h⟩ := mBW_some h
      refine LX3_removeItem hv16 R12 sv1 rfl rfl (fun S17 R17 F17 => ?_)
      obtain ⟨V21, eV21, h⟩ := mLt_some h
      refine mU_F eV21 R17 (mO3 sv1) rfl rfl (fun S21 R21 F21 => ?_)
      obtain ⟨rfl, rfl, rfl⟩ := mRA3 h
      rw [show gEntry_itemCount S21 (α v1) = V21.fI v1 6 from (mg_I (i := v1) R21 (mO3 sv1) rfl 6)]
      exact k _ R21 (F2.tr (F7.tr (F12.tr (F17.tr F21))))
theorem LX11_drop_E {α : Nat → Nat} {F : Nat} {S : wPS} {Ln Ln1 : Nat → Nat} {V V1 : mV} {e : String} {Φ : (Int32 → wPS → Prop)} {Ψ : String → wPS → Prop} {l0Ax : Nat} {l1Ix l1I : Int32} {l2Ix l2I : Int32} {k0 n0 : Nat} (h : mX11_drop F Ln l1I l2I V = some (.inl e, Ln1, V1)) (R : mRel α S Ln V) (el0A : l0Ax = α 0) (el1I : l1Ix = l1I) (el2I : l2Ix = l2I) (hk : (mP Ln - mP Ln1) / 16 ≤ k0) (hn : mP Ln - mP Ln1 ≤ n0) (k : ∀ S1, mRel α S1 Ln1 V1 → mFr α S S1 → Ψ e S1) : rX11_drop F k0 n0 l0Ax l1Ix l2Ix S Φ Ψ := LX11_drop h R el0A el1I el2I hk hn k
theorem LX11_drop_V {α : Nat → Nat} {F : Nat} {S : wPS} {Ln Ln1 : Nat → Nat} {V V1 : mV} {a : Int32} {Φ : (Int32 → wPS → Prop)} {Ψ : String → wPS → Prop} {l0Ax : Nat} {l1Ix l1I : Int32} {l2Ix l2I : Int32} {k0 n0 : Nat} (h : mX11_drop F Ln l1I l2I V = some (.inr a, Ln1, V1)) (R : mRel α S Ln V) (el0A : l0Ax = α 0) (el1I : l1Ix = l1I) (el2I : l2Ix = l2I) (hk : (mP Ln - mP Ln1) / 16 ≤ k0) (hn : mP Ln - mP Ln1 ≤ n0) (k : ∀ S1, mRel α S1 Ln1 V1 → mFr α S S1 → Φ a S1) : rX11_drop F k0 n0 l0Ax l1Ix l2Ix S Φ Ψ := LX11_drop h R el0A el1I el2I hk hn k
def mX11_sizeOf (F : Nat) (Ln : Nat → Nat) (l1I : Int32) (V : mV) : Option ((String ⊕ Int32) × (Nat → Nat) × mV) :=
  (mBT (mX11_entryAt F Ln (l1I) V) (fun v1 L2 V2 => some ((.inr ((V2.fI v1 1))), L2, V2)) (fun E0 L0 V0 => some (.inl E0, L0, V0)))
set_option maxHeartbeats 4000000 in
set_option maxRecDepth 100000 in
theorem MX11_sizeOf {F : Nat} {Ln Ln1 : Nat → Nat} {V V1 : mV} {v : (String ⊕ Int32)} {l1I : Int32} (h : mX11_sizeOf F Ln l1I V = some (v, Ln1, V1)) : mP Ln1 ≤ mP Ln := by
  unfold mX11_sizeOf at h
  rcases mBT_some h with ⟨_, _, _, z1, h⟩ | ⟨_, _, _, z1, h⟩
  · cases h
    exact MX11_entryAt z1
  · refine Nat.le_trans ?_ (MX11_entryAt z1)
    cases h
    exact Nat.le_refl _
set_option maxHeartbeats 4000000 in
set_option maxRecDepth 100000 in
theorem LX11_sizeOf {α : Nat → Nat} {F : Nat} {S : wPS} {Ln Ln1 : Nat → Nat} {V V1 : mV} {v : (String ⊕ Int32)} {Φ : (Int32 → wPS → Prop)} {Ψ : String → wPS → Prop} {l0Ax : Nat} {l1Ix l1I : Int32} {k0 n0 : Nat} (h : mX11_sizeOf F Ln l1I V = some (v, Ln1, V1)) (R : mRel α S Ln V) (el0A : l0Ax = α 0) (el1I : l1Ix = l1I) (hk : (mP Ln - mP Ln1) / 16 ≤ k0) (hn : mP Ln - mP Ln1 ≤ n0) (k : (∀ S1, mRel α S1 Ln1 V1 → mFr α S S1 → mOut Φ Ψ v S1)) : rX11_sizeOf F k0 n0 l0Ax l1Ix S Φ Ψ := by
  have el0A := el0A.symm
  subst el0A
  have el1I := el1I.symm
  subst el1I
  unfold mX11_sizeOf at h
  unfold rX11_sizeOf
  rcases mBT_some h with ⟨E0, L0, V0, z0, h⟩ | ⟨v1, L2, V2, hv1, h⟩
  · have m0 : mP L0 ≤ mP Ln := MX11_entryAt z0
    obtain ⟨rfl, rfl, rfl⟩ := mRA3 h
    refine ⟨(mP Ln - mP L0) / 16, mP Ln - mP L0, by omega, by omega, ?_⟩
    exact LX11_entryAt_E z0 R rfl rfl (by omega) (by omega) (fun S0 R0 F0 => k S0 R0 F0)
  · have mv1 : mP L2 ≤ mP Ln := MX11_entryAt hv1
    have qv1 : mP Ln1 ≤ mP L2 := by
      cases h
      exact Nat.le_refl _
    refine ⟨(mP Ln - mP L2) / 16, mP Ln - mP L2, by omega, by omega, ?_⟩
    refine LX11_entryAt_V hv1 R rfl rfl (by omega) (by omega) (fun S2 R2 F2 sv1 => ?_)
    obtain ⟨rfl, rfl, rfl⟩ := mRA3 h
    rw [show gEntry_size S2 (α v1) = V2.fI v1 1 from (mg_I (i := v1) R2 (mO3 sv1) rfl 1)]
    exact k _ R2 F2
theorem LX11_sizeOf_E {α : Nat → Nat} {F : Nat} {S : wPS} {Ln Ln1 : Nat → Nat} {V V1 : mV} {e : String} {Φ : (Int32 → wPS → Prop)} {Ψ : String → wPS → Prop} {l0Ax : Nat} {l1Ix l1I : Int32} {k0 n0 : Nat} (h : mX11_sizeOf F Ln l1I V = some (.inl e, Ln1, V1)) (R : mRel α S Ln V) (el0A : l0Ax = α 0) (el1I : l1Ix = l1I) (hk : (mP Ln - mP Ln1) / 16 ≤ k0) (hn : mP Ln - mP Ln1 ≤ n0) (k : ∀ S1, mRel α S1 Ln1 V1 → mFr α S S1 → Ψ e S1) : rX11_sizeOf F k0 n0 l0Ax l1Ix S Φ Ψ := LX11_sizeOf h R el0A el1I hk hn k
theorem LX11_sizeOf_V {α : Nat → Nat} {F : Nat} {S : wPS} {Ln Ln1 : Nat → Nat} {V V1 : mV} {a : Int32} {Φ : (Int32 → wPS → Prop)} {Ψ : String → wPS → Prop} {l0Ax : Nat} {l1Ix l1I : Int32} {k0 n0 : Nat} (h : mX11_sizeOf F Ln l1I V = some (.inr a, Ln1, V1)) (R : mRel α S Ln V) (el0A : l0Ax = α 0) (el1I : l1Ix = l1I) (hk : (mP Ln - mP Ln1) / 16 ≤ k0) (hn : mP Ln - mP Ln1 ≤ n0) (k : ∀ S1, mRel α S1 Ln1 V1 → mFr α S S1 → Φ a S1) : rX11_sizeOf F k0 n0 l0Ax l1Ix S Φ Ψ := LX11_sizeOf h R el0A el1I hk hn k
def mX11_items (F : Nat) (Ln : Nat → Nat) (l1I : Int32) (V : mV) : Option ((String ⊕ Int32) × (Nat → Nat) × mV) :=
  (mBT (mX11_entryAt F Ln (l1I) V) (fun v1 L2 V2 => some ((.inr ((V2.fI v1 6))), L2, V2)) (fun E0 L0 V0 => some (.inl E0, L0, V0)))
set_option maxHeartbeats 4000000 in
set_option maxRecDepth 100000 in
theorem MX11_items {F : Nat} {Ln Ln1 : Nat → Nat} {V V1 : mV} {v : (String ⊕ Int32)} {l1I : Int32} (h : mX11_items F Ln l1I V = some (v, Ln1, V1)) : mP Ln1 ≤ mP Ln := by
  unfold mX11_items at h
  rcases mBT_some h with ⟨_, _, _, z1, h⟩ | ⟨_, _, _, z1, h⟩
  · cases h
    exact MX11_entryAt z1
  · refine Nat.le_trans ?_ (MX11_entryAt z1)
    cases h
    exact Nat.le_refl _
set_option maxHeartbeats 4000000 in
set_option maxRecDepth 100000 in
theorem LX11_items {α : Nat → Nat} {F : Nat} {S : wPS} {Ln Ln1 : Nat → Nat} {V V1 : mV} {v : (String ⊕ Int32)} {Φ : (Int32 → wPS → Prop)} {Ψ : String → wPS → Prop} {l0Ax : Nat} {l1Ix l1I : Int32} {k0 n0 : Nat} (h : mX11_items F Ln l1I V = some (v, Ln1, V1)) (R : mRel α S Ln V) (el0A : l0Ax = α 0) (el1I : l1Ix = l1I) (hk : (mP Ln - mP Ln1) / 16 ≤ k0) (hn : mP Ln - mP Ln1 ≤ n0) (k : (∀ S1, mRel α S1 Ln1 V1 → mFr α S S1 → mOut Φ Ψ v S1)) : rX11_items F k0 n0 l0Ax l1Ix S Φ Ψ := by
  have el0A := el0A.symm
  subst el0A
  have el1I := el1I.symm
  subst el1I
  unfold mX11_items at h
  unfold rX11_items
  rcases mBT_some h with ⟨E0, L0, V0, z0, h⟩ | ⟨v1, L2, V2, hv1, h⟩
  · have m0 : mP L0 ≤ mP Ln := MX11_entryAt z0
    obtain ⟨rfl, rfl, rfl⟩ := mRA3 h
    refine ⟨(mP Ln - mP L0) / 16, mP Ln - mP L0, by omega, by omega, ?_⟩
    exact LX11_entryAt_E z0 R rfl rfl (by omega) (by omega) (fun S0 R0 F0 => k S0 R0 F0)
  · have mv1 : mP L2 ≤ mP Ln := MX11_entryAt hv1
    have qv1 : mP Ln1 ≤ mP L2 := by
      cases h
      exact Nat.le_refl _
    refine ⟨(mP Ln - mP L2) / 16, mP Ln - mP L2, by omega, by omega, ?_⟩
    refine LX11_entryAt_V hv1 R rfl rfl (by omega) (by omega) (fun S2 R2 F2 sv1 => ?_)
    obtain ⟨rfl, rfl, rfl⟩ := mRA3 h
    rw [show gEntry_itemCount S2 (α v1) = V2.fI v1 6 from (mg_I (i := v1) R2 (mO3 sv1) rfl 6)]
    exact k _ R2 F2
theorem LX11_items_E {α : Nat → Nat} {F : Nat} {S : wPS} {Ln Ln1 : Nat → Nat} {V V1 : mV} {e : String} {Φ : (Int32 → wPS → Prop)} {Ψ : String → wPS → Prop} {l0Ax : Nat} {l1Ix l1I : Int32} {k0 n0 : Nat} (h : mX11_items F Ln l1I V = some (.inl e, Ln1, V1)) (R : mRel α S Ln V) (el0A : l0Ax = α 0) (el1I : l1Ix = l1I) (hk : (mP Ln - mP Ln1) / 16 ≤ k0) (hn : mP Ln - mP Ln1 ≤ n0) (k : ∀ S1, mRel α S1 Ln1 V1 → mFr α S S1 → Ψ e S1) : rX11_items F k0 n0 l0Ax l1Ix S Φ Ψ := LX11_items h R el0A el1I hk hn k
theorem LX11_items_V {α : Nat → Nat} {F : Nat} {S : wPS} {Ln Ln1 : Nat → Nat} {V V1 : mV} {a : Int32} {Φ : (Int32 → wPS → Prop)} {Ψ : String → wPS → Prop} {l0Ax : Nat} {l1Ix l1I : Int32} {k0 n0 : Nat} (h : mX11_items F Ln l1I V = some (.inr a, Ln1, V1)) (R : mRel α S Ln V) (el0A : l0Ax = α 0) (el1I : l1Ix = l1I) (hk : (mP Ln - mP Ln1) / 16 ≤ k0) (hn : mP Ln - mP Ln1 ≤ n0) (k : ∀ S1, mRel α S1 Ln1 V1 → mFr α S S1 → Φ a S1) : rX11_items F k0 n0 l0Ax l1Ix S Φ Ψ := LX11_items h R el0A el1I hk hn k
def mX11_item (F : Nat) (Ln : Nat → Nat) (l1I : Int32) (l2I : Int32) (l3I : Int32) (V : mV) : Option ((String ⊕ Int32) × (Nat → Nat) × mV) :=
  (mBT (mX11_entryAt F Ln (l1I) V) (fun v1 L2 V2 => (mBT (mX11_testPlace F L2 (l2I) ((V2.fI v1 6)) V2) (fun v6 L7 V7 => (mBT (mX11_testRange F L7 (l3I) ((0 : Int32)) ((4 : Int32)) V7) (fun v11 L12 V12 => (mBN (mX3_at F v1 (l2I) (l3I) V12) fun v16 => some ((.inr (v16)), L12, V12))) (fun E0 L0 V0 => some (.inl E0, L0, V0)))) (fun E0 L0 V0 => some (.inl E0, L0, V0)))) (fun E0 L0 V0 => some (.inl E0, L0, V0)))
set_option maxHeartbeats 4000000 in
set_option maxRecDepth 100000 in
theorem MX11_item {F : Nat} {Ln Ln1 : Nat → Nat} {V V1 : mV} {v : (String ⊕ Int32)} {l1I : Int32} {l2I : Int32} {l3I : Int32} (h : mX11_item F Ln l1I l2I l3I V = some (v, Ln1, V1)) : mP Ln1 ≤ mP Ln := by
  unfold mX11_item at h
  rcases mBT_some h with ⟨_, _, _, z1, h⟩ | ⟨_, _, _, z1, h⟩
  · cases h
    exact MX11_entryAt z1
  · refine Nat.le_trans ?_ (MX11_entryAt z1)
    rcases mBT_some h with ⟨_, _, _, z2, h⟩ | ⟨_, _, _, z2, h⟩
    · cases h
      exact MX11_testPlace z2
    · refine Nat.le_trans ?_ (MX11_testPlace z2)
      rcases mBT_some h with ⟨_, _, _, z3, h⟩ | ⟨_, _, _, z3, h⟩
      · cases h
        exact MX11_testRange z3
      · refine Nat.le_trans ?_ (MX11_testRange z3)
        obtain ⟨_, _, h⟩ := mBN_some h
        cases h
        exact Nat.le_refl _
set_option maxHeartbeats 4000000 in
set_option maxRecDepth 100000 in
theorem LX11_item {α : Nat → Nat} {F : Nat} {S : wPS} {Ln Ln1 : Nat → Nat} {V V1 : mV} {v : (String ⊕ Int32)} {Φ : (Int32 → wPS → Prop)} {Ψ : String → wPS → Prop} {l0Ax : Nat} {l1Ix l1I : Int32} {l2Ix l2I : Int32} {l3Ix l3I : Int32} {k0 n0 : Nat} (h : mX11_item F Ln l1I l2I l3I V = some (v, Ln1, V1)) (R : mRel α S Ln V) (el0A : l0Ax = α 0) (el1I : l1Ix = l1I) (el2I : l2Ix = l2I) (el3I : l3Ix = l3I) (hk : (mP Ln - mP Ln1) / 16 ≤ k0) (hn : mP Ln - mP Ln1 ≤ n0) (k : (∀ S1, mRel α S1 Ln1 V1 → mFr α S S1 → mOut Φ Ψ v S1)) : rX11_item F k0 n0 l0Ax l1Ix l2Ix l3Ix S Φ Ψ := by
  have el0A := el0A.symm
  subst el0A
  have el1I := el1I.symm
  subst el1I
  have el2I := el2I.symm
  subst el2I
  have el3I := el3I.symm
  subst el3I
  unfold mX11_item at h
  unfold rX11_item
  rcases mBT_some h with ⟨E0, L0, V0, z0, h⟩ | ⟨v1, L2, V2, hv1, h⟩
  · have m0 : mP L0 ≤ mP Ln := MX11_entryAt z0
    obtain ⟨rfl, rfl, rfl⟩ := mRA3 h
    refine ⟨(mP Ln - mP L0) / 16, mP Ln - mP L0, by omega, by omega, ?_⟩
    exact LX11_entryAt_E z0 R rfl rfl (by omega) (by omega) (fun S0 R0 F0 => k S0 R0 F0)
  · have mv1 : mP L2 ≤ mP Ln := MX11_entryAt hv1
    have qv1 : mP Ln1 ≤ mP L2 := by
      rcases mBT_some h with ⟨_, _, _, z4, h⟩ | ⟨_, _, _, z4, h⟩
      · cases h
        exact MX11_testPlace z4
      · refine Nat.le_trans ?_ (MX11_testPlace z4)
        rcases mBT_some h with ⟨_, _, _, z5, h⟩ | ⟨_, _, _, z5, h⟩
        · cases h
          exact MX11_testRange z5
        · refine Nat.le_trans ?_ (MX11_testRange z5)
          obtain ⟨_, _, h⟩ := mBN_some h
          cases h
          exact Nat.le_refl _
    refine ⟨(mP Ln - mP L2) / 16, mP Ln - mP L2, by omega, by omega, ?_⟩
    refine LX11_entryAt_V hv1 R rfl rfl (by omega) (by omega) (fun S2 R2 F2 sv1 => ?_)
    rcases mBT_some h with ⟨E0, L0, V0, z0, h⟩ | ⟨v6, L7, V7, hv6, h⟩
    · have m0 : mP L0 ≤ mP L2 := MX11_testPlace z0
      obtain ⟨rfl, rfl, rfl⟩ := mRA3 h
      refine ⟨(mP L2 - mP L0) / 16, mP L2 - mP L0, by omega, by omega, ?_⟩
      exact LX11_testPlace_E z0 R2 rfl (by rw [show gEntry_itemCount S2 (α v1) = V2.fI v1 6 from (mg_I (i := v1) R2 (mO3 sv1) rfl 6)]) (by omega) (by omega) (fun S0 R0 F0 => k S0 R0 (F2.tr F0))
    · have mv6 : mP L7 ≤ mP L2 := MX11_testPlace hv6
      have qv6 : mP Ln1 ≤ mP L7 := by
        rcases mBT_some h with ⟨_, _, _, z6, h⟩ | ⟨_, _, _, z6, h⟩
        · cases h
          exact MX11_testRange z6
        · refine Nat.le_trans ?_ (MX11_testRange z6)
          obtain ⟨_, _, h⟩ := mBN_some h
          cases h
          exact Nat.le_refl _
      refine ⟨(mP L2 - mP L7) / 16, mP L2 - mP L7, by omega, by omega, ?_⟩
      refine LX11_testPlace_V hv6 R2 rfl (by rw [show gEntry_itemCount S2 (α v1) = V2.fI v1 6 from (mg_I (i := v1) R2 (mO3 sv1) rfl 6)]) (by omega) (by omega) (fun S7 R7 F7 => ?_)
      rcases mBT_some h with ⟨E0, L0, V0, z0, h⟩ | ⟨v11, L12, V12, hv11, h⟩
      · have m0 : mP L0 ≤ mP L7 := MX11_testRange z0
        obtain ⟨rfl, rfl, rfl⟩ := mRA3 h
        refine ⟨(mP L7 - mP L0) / 16, mP L7 - mP L0, by omega, by omega, ?_⟩
        exact LX11_testRange_E z0 R7 rfl rfl rfl (by omega) (by omega) (fun S0 R0 F0 => k S0 R0 (F2.tr (F7.tr F0)))
      · have mv11 : mP L12 ≤ mP L7 := MX11_testRange hv11
        have qv11 : mP Ln1 ≤ mP L12 := by
          obtain ⟨_, _, h⟩ := mBN_some h
          cases h
          exact Nat.le_refl _
        refine ⟨(mP L7 - mP L12) / 16, mP L7 - mP L12, by omega, by omega, ?_⟩
        refine LX11_testRange_V hv11 R7 rfl rfl rfl (by omega) (by omega) (fun S12 R12 F12 => ?_)
        obtain ⟨v16, hv16, h⟩ := mBN_some h
        refine LX3_at hv16 R12 sv1 rfl rfl rfl ?_
        obtain ⟨rfl, rfl, rfl⟩ := mRA3 h
        exact k _ R12 (F2.tr (F7.tr F12))
theorem LX11_item_E {α : Nat → Nat} {F : Nat} {S : wPS} {Ln Ln1 : Nat → Nat} {V V1 : mV} {e : String} {Φ : (Int32 → wPS → Prop)} {Ψ : String → wPS → Prop} {l0Ax : Nat} {l1Ix l1I : Int32} {l2Ix l2I : Int32} {l3Ix l3I : Int32} {k0 n0 : Nat} (h : mX11_item F Ln l1I l2I l3I V = some (.inl e, Ln1, V1)) (R : mRel α S Ln V) (el0A : l0Ax = α 0) (el1I : l1Ix = l1I) (el2I : l2Ix = l2I) (el3I : l3Ix = l3I) (hk : (mP Ln - mP Ln1) / 16 ≤ k0) (hn : mP Ln - mP Ln1 ≤ n0) (k : ∀ S1, mRel α S1 Ln1 V1 → mFr α S S1 → Ψ e S1) : rX11_item F k0 n0 l0Ax l1Ix l2Ix l3Ix S Φ Ψ := LX11_item h R el0A el1I el2I el3I hk hn k
theorem LX11_item_V {α : Nat → Nat} {F : Nat} {S : wPS} {Ln Ln1 : Nat → Nat} {V V1 : mV} {a : Int32} {Φ : (Int32 → wPS → Prop)} {Ψ : String → wPS → Prop} {l0Ax : Nat} {l1Ix l1I : Int32} {l2Ix l2I : Int32} {l3Ix l3I : Int32} {k0 n0 : Nat} (h : mX11_item F Ln l1I l2I l3I V = some (.inr a, Ln1, V1)) (R : mRel α S Ln V) (el0A : l0Ax = α 0) (el1I : l1Ix = l1I) (el2I : l2Ix = l2I) (el3I : l3Ix = l3I) (hk : (mP Ln - mP Ln1) / 16 ≤ k0) (hn : mP Ln - mP Ln1 ≤ n0) (k : ∀ S1, mRel α S1 Ln1 V1 → mFr α S S1 → Φ a S1) : rX11_item F k0 n0 l0Ax l1Ix l2Ix l3Ix S Φ Ψ := LX11_item h R el0A el1I el2I el3I hk hn k
def mX11_cameFrom (F : Nat) (Ln : Nat → Nat) (l1I : Int32) (V : mV) : Option ((String ⊕ Int32) × (Nat → Nat) × mV) :=
  (mBT (mX11_entryAt F Ln (l1I) V) (fun v1 L2 V2 => (if 0 ≤ (V2.fI v1 5) then some ((.inr ((V2.fI v1 5))), L2, V2) else (mTh L2 "java/util/NoSuchElementException" V2))) (fun E0 L0 V0 => some (.inl E0, L0, V0)))
set_option maxHeartbeats 4000000 in
set_option maxRecDepth 100000 in
theorem MX11_cameFrom {F : Nat} {Ln Ln1 : Nat → Nat} {V V1 : mV} {v : (String ⊕ Int32)} {l1I : Int32} (h : mX11_cameFrom F Ln l1I V = some (v, Ln1, V1)) : mP Ln1 ≤ mP Ln := by
  unfold mX11_cameFrom at h
  rcases mBT_some h with ⟨_, _, _, z1, h⟩ | ⟨_, _, _, z1, h⟩
  · cases h
    exact MX11_entryAt z1
  · refine Nat.le_trans ?_ (MX11_entryAt z1)
    rcases mIf_some h with ⟨_, h⟩ | ⟨_, h⟩
    · cases h
      exact Nat.le_refl _
    · obtain ⟨rfl, rfl, rfl, hth⟩ := mTh_some h
      omega
set_option maxHeartbeats 4000000 in
set_option maxRecDepth 100000 in
theorem LX11_cameFrom {α : Nat → Nat} {F : Nat} {S : wPS} {Ln Ln1 : Nat → Nat} {V V1 : mV} {v : (String ⊕ Int32)} {Φ : (Int32 → wPS → Prop)} {Ψ : String → wPS → Prop} {l0Ax : Nat} {l1Ix l1I : Int32} {k0 n0 : Nat} (h : mX11_cameFrom F Ln l1I V = some (v, Ln1, V1)) (R : mRel α S Ln V) (el0A : l0Ax = α 0) (el1I : l1Ix = l1I) (hk : (mP Ln - mP Ln1) / 16 ≤ k0) (hn : mP Ln - mP Ln1 ≤ n0) (k : (∀ S1, mRel α S1 Ln1 V1 → mFr α S S1 → mOut Φ Ψ v S1)) : rX11_cameFrom F k0 n0 l0Ax l1Ix S Φ Ψ := by
  have el0A := el0A.symm
  subst el0A
  have el1I := el1I.symm
  subst el1I
  unfold mX11_cameFrom at h
  unfold rX11_cameFrom
  rcases mBT_some h with ⟨E0, L0, V0, z0, h⟩ | ⟨v1, L2, V2, hv1, h⟩
  · have m0 : mP L0 ≤ mP Ln := MX11_entryAt z0
    obtain ⟨rfl, rfl, rfl⟩ := mRA3 h
    refine ⟨(mP Ln - mP L0) / 16, mP Ln - mP L0, by omega, by omega, ?_⟩
    exact LX11_entryAt_E z0 R rfl rfl (by omega) (by omega) (fun S0 R0 F0 => k S0 R0 F0)
  · have mv1 : mP L2 ≤ mP Ln := MX11_entryAt hv1
    have qv1 : mP Ln1 ≤ mP L2 := by
      rcases mIf_some h with ⟨_, h⟩ | ⟨_, h⟩
      · cases h
        exact Nat.le_refl _
      · obtain ⟨rfl, rfl, rfl, hth⟩ := mTh_some h
        omega
    refine ⟨(mP Ln - mP L2) / 16, mP Ln - mP L2, by omega, by omega, ?_⟩
    refine LX11_entryAt_V hv1 R rfl rfl (by omega) (by omega) (fun S2 R2 F2 sv1 => ?_)
    refine mIf h (by rw [show gEntry_origin S2 (α v1) = V2.fI v1 5 from (mg_I (i := v1) R2 (mO3 sv1) rfl 5)]) (fun c2 h => ?_) (fun c2 h => ?_)
    · obtain ⟨rfl, rfl, rfl⟩ := mRA3 h
      rw [show gEntry_origin S2 (α v1) = V2.fI v1 5 from (mg_I (i := v1) R2 (mO3 sv1) rfl 5)]
      exact k _ R2 F2
    · obtain ⟨rfl, rfl, rfl, hth⟩ := mTh_some h
      exact ⟨by omega, by omega, k _ (mRel_th R2) F2⟩
theorem LX11_cameFrom_E {α : Nat → Nat} {F : Nat} {S : wPS} {Ln Ln1 : Nat → Nat} {V V1 : mV} {e : String} {Φ : (Int32 → wPS → Prop)} {Ψ : String → wPS → Prop} {l0Ax : Nat} {l1Ix l1I : Int32} {k0 n0 : Nat} (h : mX11_cameFrom F Ln l1I V = some (.inl e, Ln1, V1)) (R : mRel α S Ln V) (el0A : l0Ax = α 0) (el1I : l1Ix = l1I) (hk : (mP Ln - mP Ln1) / 16 ≤ k0) (hn : mP Ln - mP Ln1 ≤ n0) (k : ∀ S1, mRel α S1 Ln1 V1 → mFr α S S1 → Ψ e S1) : rX11_cameFrom F k0 n0 l0Ax l1Ix S Φ Ψ := LX11_cameFrom h R el0A el1I hk hn k
theorem LX11_cameFrom_V {α : Nat → Nat} {F : Nat} {S : wPS} {Ln Ln1 : Nat → Nat} {V V1 : mV} {a : Int32} {Φ : (Int32 → wPS → Prop)} {Ψ : String → wPS → Prop} {l0Ax : Nat} {l1Ix l1I : Int32} {k0 n0 : Nat} (h : mX11_cameFrom F Ln l1I V = some (.inr a, Ln1, V1)) (R : mRel α S Ln V) (el0A : l0Ax = α 0) (el1I : l1Ix = l1I) (hk : (mP Ln - mP Ln1) / 16 ≤ k0) (hn : mP Ln - mP Ln1 ≤ n0) (k : ∀ S1, mRel α S1 Ln1 V1 → mFr α S S1 → Φ a S1) : rX11_cameFrom F k0 n0 l0Ax l1Ix S Φ Ψ := LX11_cameFrom h R el0A el1I hk hn k
def mX11_type (F : Nat) (Ln : Nat → Nat) (l1I : Int32) (V : mV) : Option ((String ⊕ Int32) × (Nat → Nat) × mV) :=
  (if (V.fI 2048 1) < (64 : Int32) then (mBA (mX9_add F Ln 2048 (l1I) V) fun v2 L3 V3 => some ((.inr ((V3.fI 2048 1))), L3, V3)) else (mTh Ln "java/lang/IllegalStateException" V))
set_option maxHeartbeats 4000000 in
set_option maxRecDepth 100000 in
theorem MX11_type {F : Nat} {Ln Ln1 : Nat → Nat} {V V1 : mV} {v : (String ⊕ Int32)} {l1I : Int32} (h : mX11_type F Ln l1I V = some (v, Ln1, V1)) : mP Ln1 ≤ mP Ln := by
  unfold mX11_type at h
  rcases mIf_some h with ⟨_, h⟩ | ⟨_, h⟩
  · obtain ⟨_, _, _, z1, h⟩ := mBA_some h
    refine Nat.le_trans ?_ (MX9_add z1)
    cases h
    exact Nat.le_refl _
  · obtain ⟨rfl, rfl, rfl, hth⟩ := mTh_some h
    omega
set_option maxHeartbeats 4000000 in
set_option maxRecDepth 100000 in
theorem LX11_type {α : Nat → Nat} {F : Nat} {S : wPS} {Ln Ln1 : Nat → Nat} {V V1 : mV} {v : (String ⊕ Int32)} {Φ : (Int32 → wPS → Prop)} {Ψ : String → wPS → Prop} {l0Ax : Nat} {l1Ix l1I : Int32} {k0 n0 : Nat} (h : mX11_type F Ln l1I V = some (v, Ln1, V1)) (R : mRel α S Ln V) (el0A : l0Ax = α 0) (el1I : l1Ix = l1I) (hk : (mP Ln - mP Ln1) / 16 ≤ k0) (hn : mP Ln - mP Ln1 ≤ n0) (k : (∀ S1, mRel α S1 Ln1 V1 → mFr α S S1 → mOut Φ Ψ v S1)) : rX11_type F k0 n0 l0Ax l1Ix S Φ Ψ := by
  have el0A := el0A.symm
  subst el0A
  have el1I := el1I.symm
  subst el1I
  unfold mX11_type at h
  unfold rX11_type
  refine mIf h (by rw [show gRow_count S (wkAd (gWitnessworks_typed S (α 0))) = V.fI 2048 1 from (mg_I (i := 2048) R (by decide) (mg_A (t := 2048) R rfl rfl) 1)]) (fun c2 h => ?_) (fun c2 h => ?_)
  · obtain ⟨v2, L3, V3, hv2, h⟩ := mBA_some h
    have mv2 : mP L3 ≤ mP Ln := MX9_add hv2
    have qv2 : mP Ln1 ≤ mP L3 := by
      cases h
      exact Nat.le_refl _
    refine ⟨(mP Ln - mP L3) / 16, mP Ln - mP L3, by omega, by omega, ?_⟩
    refine LX9_add hv2 R rfl (mg_A (t := 2048) R rfl rfl) rfl (by omega) (by omega) (fun S3 R3 F3 => ?_)
    obtain ⟨rfl, rfl, rfl⟩ := mRA3 h
    rw [show gRow_count S3 (wkAd (gWitnessworks_typed S3 (α 0))) = V3.fI 2048 1 from (mg_I (i := 2048) R3 (by decide) (mg_A (t := 2048) R3 rfl rfl) 1)]
    exact k _ R3 F3
  · obtain ⟨rfl, rfl, rfl, hth⟩ := mTh_some h
    exact ⟨by omega, by omega, k _ (mRel_th R) mFr.rf⟩
theorem LX11_type_E {α : Nat → Nat} {F : Nat} {S : wPS} {Ln Ln1 : Nat → Nat} {V V1 : mV} {e : String} {Φ : (Int32 → wPS → Prop)} {Ψ : String → wPS → Prop} {l0Ax : Nat} {l1Ix l1I : Int32} {k0 n0 : Nat} (h : mX11_type F Ln l1I V = some (.inl e, Ln1, V1)) (R : mRel α S Ln V) (el0A : l0Ax = α 0) (el1I : l1Ix = l1I) (hk : (mP Ln - mP Ln1) / 16 ≤ k0) (hn : mP Ln - mP Ln1 ≤ n0) (k : ∀ S1, mRel α S1 Ln1 V1 → mFr α S S1 → Ψ e S1) : rX11_type F k0 n0 l0Ax l1Ix S Φ Ψ := LX11_type h R el0A el1I hk hn k
theorem LX11_type_V {α : Nat → Nat} {F : Nat} {S : wPS} {Ln Ln1 : Nat → Nat} {V V1 : mV} {a : Int32} {Φ : (Int32 → wPS → Prop)} {Ψ : String → wPS → Prop} {l0Ax : Nat} {l1Ix l1I : Int32} {k0 n0 : Nat} (h : mX11_type F Ln l1I V = some (.inr a, Ln1, V1)) (R : mRel α S Ln V) (el0A : l0Ax = α 0) (el1I : l1Ix = l1I) (hk : (mP Ln - mP Ln1) / 16 ≤ k0) (hn : mP Ln - mP Ln1 ≤ n0) (k : ∀ S1, mRel α S1 Ln1 V1 → mFr α S S1 → Φ a S1) : rX11_type F k0 n0 l0Ax l1Ix S Φ Ψ := LX11_type h R el0A el1I hk hn k
def mX11_alter (F : Nat) (Ln : Nat → Nat) (l1I : Int32) (l2I : Int32) (V : mV) : Option ((String ⊕ Int32) × (Nat → Nat) × mV) :=
  (mBT (mX11_testPlace F Ln (l1I) ((V.fI 2048 1)) V) (fun v1 L2 V2 => (mBN (mX9_at F L2 2048 (l1I) V2) fun v6 => (mBW (mX9_set F L2 2048 (l1I) (l2I) V2) fun v11 V12 => some ((.inr (v6)), L2, V12)))) (fun E0 L0 V0 => some (.inl E0, L0, V0)))
set_option maxHeartbeats 4000000 in
set_option maxRecDepth 100000 in
theorem MX11_alter {F : Nat} {Ln Ln1 : Nat → Nat} {V V1 : mV} {v : (String ⊕ Int32)} {l1I : Int32} {l2I : Int32} (h : mX11_alter F Ln l1I l2I V = some (v, Ln1, V1)) : mP Ln1 ≤ mP Ln := by
  unfold mX11_alter at h
  rcases mBT_some h with ⟨_, _, _, z1, h⟩ | ⟨_, _, _, z1, h⟩
  · cases h
    exact MX11_testPlace z1
  · refine Nat.le_trans ?_ (MX11_testPlace z1)
    obtain ⟨_, _, h⟩ := mBN_some h
    obtain ⟨_, _, _, h⟩ := mBW_some h
    cases h
    exact Nat.le_refl _
set_option maxHeartbeats 4000000 in
set_option maxRecDepth 100000 in
theorem LX11_alter {α : Nat → Nat} {F : Nat} {S : wPS} {Ln Ln1 : Nat → Nat} {V V1 : mV} {v : (String ⊕ Int32)} {Φ : (Int32 → wPS → Prop)} {Ψ : String → wPS → Prop} {l0Ax : Nat} {l1Ix l1I : Int32} {l2Ix l2I : Int32} {k0 n0 : Nat} (h : mX11_alter F Ln l1I l2I V = some (v, Ln1, V1)) (R : mRel α S Ln V) (el0A : l0Ax = α 0) (el1I : l1Ix = l1I) (el2I : l2Ix = l2I) (hk : (mP Ln - mP Ln1) / 16 ≤ k0) (hn : mP Ln - mP Ln1 ≤ n0) (k : (∀ S1, mRel α S1 Ln1 V1 → mFr α S S1 → mOut Φ Ψ v S1)) : rX11_alter F k0 n0 l0Ax l1Ix l2Ix S Φ Ψ := by
  have el0A := el0A.symm
  subst el0A
  have el1I := el1I.symm
  subst el1I
  have el2I := el2I.symm
  subst el2I
  unfold mX11_alter at h
  unfold rX11_alter
  rcases mBT_some h with ⟨E0, L0, V0, z0, h⟩ | ⟨v1, L2, V2, hv1, h⟩
  · have m0 : mP L0 ≤ mP Ln := MX11_testPlace z0
    obtain ⟨rfl, rfl, rfl⟩ := mRA3 h
    refine ⟨(mP Ln - mP L0) / 16, mP Ln - mP L0, by omega, by omega, ?_⟩
    exact LX11_testPlace_E z0 R rfl (by rw [show gRow_count S (wkAd (gWitnessworks_typed S (α 0))) = V.fI 2048 1 from (mg_I (i := 2048) R (by decide) (mg_A (t := 2048) R rfl rfl) 1)]) (by omega) (by omega) (fun S0 R0 F0 => k S0 R0 F0)
  · have mv1 : mP L2 ≤ mP Ln := MX11_testPlace hv1
    have qv1 : mP Ln1 ≤ mP L2 := by
      obtain ⟨_, _, h⟩ := mBN_some h
      obtain ⟨_, _, _, h⟩ := mBW_some h
      cases h
      exact Nat.le_refl _
    refine ⟨(mP Ln - mP L2) / 16, mP Ln - mP L2, by omega, by omega, ?_⟩
    refine LX11_testPlace_V hv1 R rfl (by rw [show gRow_count S (wkAd (gWitnessworks_typed S (α 0))) = V.fI 2048 1 from (mg_I (i := 2048) R (by decide) (mg_A (t := 2048) R rfl rfl) 1)]) (by omega) (by omega) (fun S2 R2 F2 => ?_)
    obtain ⟨v6, hv6, h⟩ := mBN_some h
    refine LX9_at hv6 R2 rfl (mg_A (t := 2048) R2 rfl rfl) rfl ?_
    obtain ⟨v11, V12, hv11, h⟩ := mBW_some h
    refine LX9_set hv11 R2 rfl (mg_A (t := 2048) R2 rfl rfl) rfl rfl (fun S12 R12 F12 => ?_)
    obtain ⟨rfl, rfl, rfl⟩ := mRA3 h
    exact k _ R12 (F2.tr F12)
theorem LX11_alter_E {α : Nat → Nat} {F : Nat} {S : wPS} {Ln Ln1 : Nat → Nat} {V V1 : mV} {e : String} {Φ : (Int32 → wPS → Prop)} {Ψ : String → wPS → Prop} {l0Ax : Nat} {l1Ix l1I : Int32} {l2Ix l2I : Int32} {k0 n0 : Nat} (h : mX11_alter F Ln l1I l2I V = some (.inl e, Ln1, V1)) (R : mRel α S Ln V) (el0A : l0Ax = α 0) (el1I : l1Ix = l1I) (el2I : l2Ix = l2I) (hk : (mP Ln - mP Ln1) / 16 ≤ k0) (hn : mP Ln - mP Ln1 ≤ n0) (k : ∀ S1, mRel α S1 Ln1 V1 → mFr α S S1 → Ψ e S1) : rX11_alter F k0 n0 l0Ax l1Ix l2Ix S Φ Ψ := LX11_alter h R el0A el1I el2I hk hn k
theorem LX11_alter_V {α : Nat → Nat} {F : Nat} {S : wPS} {Ln Ln1 : Nat → Nat} {V V1 : mV} {a : Int32} {Φ : (Int32 → wPS → Prop)} {Ψ : String → wPS → Prop} {l0Ax : Nat} {l1Ix l1I : Int32} {l2Ix l2I : Int32} {k0 n0 : Nat} (h : mX11_alter F Ln l1I l2I V = some (.inr a, Ln1, V1)) (R : mRel α S Ln V) (el0A : l0Ax = α 0) (el1I : l1Ix = l1I) (el2I : l2Ix = l2I) (hk : (mP Ln - mP Ln1) / 16 ≤ k0) (hn : mP Ln - mP Ln1 ≤ n0) (k : ∀ S1, mRel α S1 Ln1 V1 → mFr α S S1 → Φ a S1) : rX11_alter F k0 n0 l0Ax l1Ix l2Ix S Φ Ψ := LX11_alter h R el0A el1I el2I hk hn k
def mX11_forgetEntry_b0 (F : Nat) (rec : Nat → Int32 → Int32 → mV → Option (Unit × mV)) (l1I : Int32) (l2I : Int32) (V : mV) : Option (Unit × mV) :=
  (if l2I < 0 then (if l1I < 0 ∨ 12 ≤ (l1I).toNatClampNeg then none else (mLt (mF V (256 + 8 * (l1I).toNatClampNeg) 14 ((0 : Int32))) fun V4 => (mLt (mF V4 0 2 (((V4.fI 0 2) - (1 : Int32)))) fun V5 => some ((), V5)))) else (if l2I < 0 ∨ 16 ≤ (l2I).toNatClampNeg then none else (if (V.fI (V.cl (l2I).toNatClampNeg) 1) = l1I then (mBW (mX11_removeClaim F (l2I) V) fun v10 V11 => (mLt (l2I + (-1 : Int32)) fun x15 => (rec 0 (l1I) (x15) V11))) else (mLt (l2I + (-1 : Int32)) fun x9 => (rec 0 (l1I) (x9) V)))))
def mX11_forgetEntry_go (F : Nat) : Nat → Nat → Int32 → Int32 → mV → Option (Unit × mV)
  | 0, _, _, _, _ => none
  | k' + 1, lab, l1I, l2I, V => if lab = 0 then mX11_forgetEntry_b0 F (mX11_forgetEntry_go F k') l1I l2I V else none
def mX11_forgetEntry_s (F : Nat) (rec : Nat → Int32 → Int32 → mV → Option (Unit × mV)) (l1I : Int32) (V : mV) : Option (Unit × mV) :=
  (mLt ((V.fI 0 15) - (1 : Int32)) fun x16 => (rec 0 (l1I) (x16) V))
def mX11_forgetEntry (F : Nat) (l1I : Int32) (V : mV) : Option (Unit × mV) := mX11_forgetEntry_s F (mX11_forgetEntry_go F F) l1I V
set_option maxHeartbeats 4000000 in
set_option maxRecDepth 100000 in
theorem LX11_forgetEntry_go {α : Nat → Nat} {F : Nat} {Ln : Nat → Nat} {v : Unit} {V1 : mV} {Φ : (Unit → wPS → Prop)} : ∀ k' : Nat, (∀ (l1I : Int32) (l2I : Int32) (S : wPS) (V : mV) , mRel α S Ln V → mX11_forgetEntry_go F k' 0 l1I l2I V = some (v, V1) → (∀ S1, mRel α S1 Ln V1 → mFr α S S1 → Φ v S1) → rX11_forgetEntry_go F k' 0 (α 0) l1I l2I S Φ) := by
  intro k'
  induction k' with
  | zero => exact (fun _ _ _ _ _ h _ => by cases h)
  | succ k' ih =>
    intro l1I l2I S V R h k
    rw [mX11_forgetEntry_go, if_pos rfl] at h
    rw [rX11_forgetEntry_go, if_pos rfl]
    unfold mX11_forgetEntry_b0 at h
    unfold rX11_forgetEntry_b0
    refine mIf h Iff.rfl (fun c1 h => ?_) (fun c1 h => ?_)
    · refine mGd h (by rw [show S.len (wkAd (gWitnessworks_book S (α 0))) = 12 from (mg_len (i := 10) R (mAr (by decide)) (mg_A (t := 10) R rfl rfl))]) (fun c2 h => ?_)
      obtain ⟨V4, eV4, h⟩ := mLt_some h
      refine mU_F eV4 R (mO3 (mKA10 (Nat.lt_of_not_le (fun z => c2 (Or.inr z))))) (mg_RA R (mRA10 (Nat.lt_of_not_le (fun z => c2 (Or.inr z)))) (mg_A (t := 10) R rfl rfl) rfl) rfl (fun S4 R4 F4 => ?_)
      obtain ⟨V5, eV5, h⟩ := mLt_some h
      refine mU_F eV5 R4 (by decide) rfl (by rw [show gWitnessworks_entryCount S4 (α 0) = V4.fI 0 2 from (mg_I (i := 0) R4 (by decide) rfl 2)]) (fun S5 R5 F5 => ?_)
      obtain ⟨rfl, rfl⟩ := mRW h
      exact k _ R5 (F4.tr F5)
    · refine mGd h (by rw [show S.len (wkAd (gWitnessworks_claims S (α 0))) = 16 from (mg_len (i := 17) R (mAr (by decide)) (mg_A (t := 17) R rfl rfl))]) (fun c3 h => ?_)
      refine mIf h (by rw [show gClaim_entry S (wkAd (S.rA (wkAd (gWitnessworks_claims S (α 0))) (l2I).toNatClampNeg)) = V.fI (V.cl (l2I).toNatClampNeg) 1 from (mg_I (i := (V.cl (l2I).toNatClampNeg)) R (mO0 (mg_CLk R (Nat.lt_of_not_le (fun z => c3 (Or.inr z))))) (mg_CL R (Nat.lt_of_not_le (fun z => c3 (Or.inr z))) (mg_A (t := 17) R rfl rfl) rfl) 1)]) (fun c4 h => ?_) (fun c4 h => ?_)
      · obtain ⟨v10, V11, hv10, h⟩ := mBW_some h
        refine LX11_removeClaim hv10 R rfl rfl (fun S11 R11 F11 => ?_)
        refine mLet h rfl (fun x15 ex15 h => ?_)
        exact ih _ _ _ _ R11 h (fun S1 R1 F1 => k S1 R1 (F11.tr F1))
      · refine mLet h rfl (fun x9 ex9 h => ?_)
        exact ih _ _ _ _ R h (fun S1 R1 F1 => k S1 R1 F1)
set_option maxHeartbeats 4000000 in
set_option maxRecDepth 100000 in
theorem LX11_forgetEntry {α : Nat → Nat} {F : Nat} {S : wPS} {Ln : Nat → Nat} {V V1 : mV} {v : Unit} {Φ : (Unit → wPS → Prop)} {l0Ax : Nat} {l1Ix l1I : Int32} (h : mX11_forgetEntry F l1I V = some (v, V1)) (R : mRel α S Ln V) (el0A : l0Ax = α 0) (el1I : l1Ix = l1I) (k : (∀ S1, mRel α S1 Ln V1 → mFr α S S1 → Φ v S1)) : rX11_forgetEntry F l0Ax l1Ix S Φ := by
  have el0A := el0A.symm
  subst el0A
  have el1I := el1I.symm
  subst el1I
  have ih := LX11_forgetEntry_go  (α := α) (F := F) (v := v) (Ln := Ln) (Φ := Φ) (V1 := V1) F
  unfold mX11_forgetEntry mX11_forgetEntry_s at h
  unfold rX11_forgetEntry rX11_forgetEntry_s
  refine mLet h (by rw [show gWitnessworks_claimCount S (α 0) = V.fI 0 15 from (mg_I (i := 0) R (by decide) rfl 15)]) (fun x16 ex16 h => ?_)
  exact ih _ _ _ _ R h (fun S1 R1 F1 => k S1 R1 F1)
def mX11_standsAlready_b0 (F : Nat) (rec : Nat → (Nat → Nat) → Int32 → Int32 → Int32 → mV → Option Int32) (Ln : Nat → Nat) (l1I : Int32) (l2I : Int32) (l3I : Int32) (V : mV) : Option Int32 :=
  (if (V.fI 0 15) ≤ l3I then some ((0 : Int32)) else (if l3I < 0 ∨ 16 ≤ (l3I).toNatClampNeg then none else (if (V.fI (V.cl (l3I).toNatClampNeg) 1) = l1I then (if (V.fI (V.cl (l3I).toNatClampNeg) 2) = l2I then (mBN (mX9_isLike F Ln ((V.cl (l3I).toNatClampNeg) + 1) 2048 V) fun v8 => (if v8 = 0 then (mLt (l3I + (1 : Int32)) fun x14 => (rec 0 Ln (l1I) (l2I) (x14) V)) else some ((1 : Int32)))) else (mLt (l3I + (1 : Int32)) fun x7 => (rec 0 Ln (l1I) (l2I) (x7) V))) else (mLt (l3I + (1 : Int32)) fun x5 => (rec 0 Ln (l1I) (l2I) (x5) V)))))
def mX11_standsAlready_go (F : Nat) : Nat → Nat → (Nat → Nat) → Int32 → Int32 → Int32 → mV → Option Int32
  | 0, _, _, _, _, _, _ => none
  | k' + 1, lab, Ln, l1I, l2I, l3I, V => if lab = 0 then mX11_standsAlready_b0 F (mX11_standsAlready_go F k') Ln l1I l2I l3I V else none
def mX11_standsAlready_s (F : Nat) (rec : Nat → (Nat → Nat) → Int32 → Int32 → Int32 → mV → Option Int32) (Ln : Nat → Nat) (l1I : Int32) (l2I : Int32) (V : mV) : Option Int32 :=
  (rec 0 Ln (l1I) (l2I) ((0 : Int32)) V)
def mX11_standsAlready (F : Nat) (Ln : Nat → Nat) (l1I : Int32) (l2I : Int32) (V : mV) : Option Int32 := mX11_standsAlready_s F (mX11_standsAlready_go F F) Ln l1I l2I V
set_option maxHeartbeats 4000000 in
set_option maxRecDepth 100000 in
theorem LX11_standsAlready_go {α : Nat → Nat} {F : Nat} {v : Int32} {Φ : (Int32 → wPS → Prop)} : ∀ k' : Nat, (∀ (l1I : Int32) (l2I : Int32) (l3I : Int32) (S : wPS) (V : mV) (Ln : Nat → Nat) , mRel α S Ln V → mX11_standsAlready_go F k' 0 Ln l1I l2I l3I V = some v → (Φ v S) → rX11_standsAlready_go F k' 0 (α 0) l1I l2I l3I S Φ) := by
  intro k'
  induction k' with
  | zero => exact (fun _ _ _ _ _ _ _ h _ => by cases h)
  | succ k' ih =>
    intro l1I l2I l3I S V Ln R h k
    rw [mX11_standsAlready_go, if_pos rfl] at h
    rw [rX11_standsAlready_go, if_pos rfl]
    unfold mX11_standsAlready_b0 at h
    unfold rX11_standsAlready_b0
    refine mIf h (by rw [show gWitnessworks_claimCount S (α 0) = V.fI 0 15 from (mg_I (i := 0) R (by decide) rfl 15)]) (fun c1 h => ?_) (fun c1 h => ?_)
    · cases h
      exact k
    · refine mGd h (by rw [show S.len (wkAd (gWitnessworks_claims S (α 0))) = 16 from (mg_len (i := 17) R (mAr (by decide)) (mg_A (t := 17) R rfl rfl))]) (fun c2 h => ?_)
      refine mIf h (by rw [show gClaim_entry S (wkAd (S.rA (wkAd (gWitnessworks_claims S (α 0))) (l3I).toNatClampNeg)) = V.fI (V.cl (l3I).toNatClampNeg) 1 from (mg_I (i := (V.cl (l3I).toNatClampNeg)) R (mO0 (mg_CLk R (Nat.lt_of_not_le (fun z => c2 (Or.inr z))))) (mg_CL R (Nat.lt_of_not_le (fun z => c2 (Or.inr z))) (mg_A (t := 17) R rfl rfl) rfl) 1)]) (fun c3 h => ?_) (fun c3 h => ?_)
      · refine mIf h (by rw [show gClaim_isWitness S (wkAd (S.rA (wkAd (gWitnessworks_claims S (α 0))) (l3I).toNatClampNeg)) = V.fI (V.cl (l3I).toNatClampNeg) 2 from (mg_I (i := (V.cl (l3I).toNatClampNeg)) R (mO0 (mg_CLk R (Nat.lt_of_not_le (fun z => c2 (Or.inr z))))) (mg_CL R (Nat.lt_of_not_le (fun z => c2 (Or.inr z))) (mg_A (t := 17) R rfl rfl) rfl) 2)]) (fun c4 h => ?_) (fun c4 h => ?_)
        · obtain ⟨v8, hv8, h⟩ := mBN_some h
          refine LX9_isLike hv8 R (mKc1 (mg_CLk R (Nat.lt_of_not_le (fun z => c2 (Or.inr z))))) rfl (mg_A (t := ((V.cl (l3I).toNatClampNeg) + 1)) R (mRc (mg_CLk R (Nat.lt_of_not_le (fun z => c2 (Or.inr z))))) (mg_CL R (Nat.lt_of_not_le (fun z => c2 (Or.inr z))) (mg_A (t := 17) R rfl rfl) rfl)) (mg_A (t := 2048) R rfl rfl) ?_
          refine mIf h Iff.rfl (fun c5 h => ?_) (fun c5 h => ?_)
          · refine mLet h rfl (fun x14 ex14 h => ?_)
            exact ih _ _ _ _ _ _ R h k
          · cases h
            exact k
        · refine mLet h rfl (fun x7 ex7 h => ?_)
          exact ih _ _ _ _ _ _ R h k
      · refine mLet h rfl (fun x5 ex5 h => ?_)
        exact ih _ _ _ _ _ _ R h k
set_option maxHeartbeats 4000000 in
set_option maxRecDepth 100000 in
theorem LX11_standsAlready {α : Nat → Nat} {F : Nat} {S : wPS} {Ln : Nat → Nat} {V : mV} {v : Int32} {Φ : (Int32 → wPS → Prop)} {l0Ax : Nat} {l1Ix l1I : Int32} {l2Ix l2I : Int32} (h : mX11_standsAlready F Ln l1I l2I V = some v) (R : mRel α S Ln V) (el0A : l0Ax = α 0) (el1I : l1Ix = l1I) (el2I : l2Ix = l2I) (k : (Φ v S)) : rX11_standsAlready F l0Ax l1Ix l2Ix S Φ := by
  have el0A := el0A.symm
  subst el0A
  have el1I := el1I.symm
  subst el1I
  have el2I := el2I.symm
  subst el2I
  have ih := LX11_standsAlready_go  (α := α) (F := F) (v := v) (Φ := Φ) F
  unfold mX11_standsAlready mX11_standsAlready_s at h
  unfold rX11_standsAlready rX11_standsAlready_s
  exact ih _ _ _ _ _ _ R h k
def mJ0_length_8abf5 (F : Nat) : Option Int32 :=
  some (((12 : Int32) >>> ((0 : Int32) &&& 31)))
set_option maxHeartbeats 4000000 in
set_option maxRecDepth 100000 in
theorem LJ0_length_8abf5 {F : Nat} {S : wPS} {v : Int32} {Φ : (Int32 → wPS → Prop)} (h : mJ0_length_8abf5 F  = some v) (k : (Φ v S)) : rJ0_length_8abf5 F S Φ := by
  unfold mJ0_length_8abf5 at h
  unfold rJ0_length_8abf5
  cases h
  exact k
def mJ0_checkIndex_df160 (F : Nat) (l0I : Int32) (l1I : Int32) : Option Unit :=
  (mBN (mJ3_checkIndex_8e157 F (l0I) (l1I)) fun v1 => some (()))
set_option maxHeartbeats 4000000 in
set_option maxRecDepth 100000 in
theorem LJ0_checkIndex_df160 {F : Nat} {S : wPS} {v : Unit} {Φ : (Unit → wPS → Prop)} {l0Ix l0I : Int32} {l1Ix l1I : Int32} (h : mJ0_checkIndex_df160 F l0I l1I  = some v) (el0I : l0Ix = l0I) (el1I : l1Ix = l1I) (k : (Φ v S)) : rJ0_checkIndex_df160 F l0Ix l1Ix S Φ := by
  have el0I := el0I.symm
  subst el0I
  have el1I := el1I.symm
  subst el1I
  unfold mJ0_checkIndex_df160 at h
  unfold rJ0_checkIndex_df160
  obtain ⟨v1, hv1, h⟩ := mBN_some h
  refine LJ3_checkIndex_8e157 hv1 rfl rfl ?_
  cases h
  exact k
def mJ1_charAt_3b067 (F : Nat) (l1I : Int32) : Option Int32 :=
  (mBN (mJ0_checkIndex_df160 F (l1I) ((12 : Int32))) fun v1 => (if l1I < 0 ∨ 12 ≤ (l1I).toNatClampNeg then none else (if ¬ (((((Int32.toUInt32 ((wkKd (l1I).toNatClampNeg) &&& (255 : Int32))) % 65536).toInt32 : Int32).toUInt32 % 65536).toInt32 = ((Int32.toUInt32 ((wkKd (l1I).toNatClampNeg) &&& (255 : Int32))) % 65536).toInt32) then none else some (((Int32.toUInt32 ((wkKd (l1I).toNatClampNeg) &&& (255 : Int32))) % 65536).toInt32))))
set_option maxHeartbeats 4000000 in
set_option maxRecDepth 100000 in
theorem LJ1_charAt_3b067 {F : Nat} {S : wPS} {v : Int32} {Φ : (Int32 → wPS → Prop)} {l1Ix l1I : Int32} (h : mJ1_charAt_3b067 F l1I  = some v) (el1I : l1Ix = l1I) (k : (Φ v S)) : rJ1_charAt_3b067 F l1Ix S Φ := by
  have el1I := el1I.symm
  subst el1I
  unfold mJ1_charAt_3b067 at h
  unfold rJ1_charAt_3b067
  obtain ⟨v1, hv1, h⟩ := mBN_some h
  refine LJ0_checkIndex_df160 hv1 rfl rfl ?_
  refine mGd h Iff.rfl (fun c1 h => ?_)
  refine mGp h Iff.rfl (fun c2 h => ?_)
  cases h
  exact k
def mJ1_indexOf_4cfef (F : Nat) (l1I : Int32) (l2I : Int32) (l3I : Int32) : Option Int32 :=
  (mBN (mJ1_canEncode_9a6ad F (l1I)) fun v1 => (if v1 = 0 then some ((-1 : Int32)) else (mLt (if l2I < (0 : Int32) then (0 : Int32) else l2I) fun x7 => (mLt (if (12 : Int32) < l3I then (12 : Int32) else l3I) fun x8 => (if x7 < x8 then (mBN (mJ1_indexOfChar_4cfef F (l1I) (x7) (x8)) fun v10 => some (v10)) else some ((-1 : Int32)))))))
set_option maxHeartbeats 4000000 in
set_option maxRecDepth 100000 in
theorem LJ1_indexOf_4cfef {F : Nat} {S : wPS} {v : Int32} {Φ : (Int32 → wPS → Prop)} {l1Ix l1I : Int32} {l2Ix l2I : Int32} {l3Ix l3I : Int32} (h : mJ1_indexOf_4cfef F l1I l2I l3I  = some v) (el1I : l1Ix = l1I) (el2I : l2Ix = l2I) (el3I : l3Ix = l3I) (k : (Φ v S)) : rJ1_indexOf_4cfef F l1Ix l2Ix l3Ix S Φ := by
  have el1I := el1I.symm
  subst el1I
  have el2I := el2I.symm
  subst el2I
  have el3I := el3I.symm
  subst el3I
  unfold mJ1_indexOf_4cfef at h
  unfold rJ1_indexOf_4cfef
  obtain ⟨v1, hv1, h⟩ := mBN_some h
  refine LJ1_canEncode_9a6ad hv1 rfl ?_
  refine mIf h Iff.rfl (fun c1 h => ?_) (fun c1 h => ?_)
  · cases h
    exact k
  · refine mLet h rfl (fun x7 ex7 h => ?_)
    refine mLet h rfl (fun x8 ex8 h => ?_)
    refine mIf h Iff.rfl (fun c2 h => ?_) (fun c2 h => ?_)
    · obtain ⟨v10, hv10, h⟩ := mBN_some h
      refine LJ1_indexOfChar_4cfef hv10 rfl rfl rfl ?_
      cases h
      exact k
    · cases h
      exact k
end
