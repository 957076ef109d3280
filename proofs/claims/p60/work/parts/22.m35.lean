/-! LIFTED BY PROGRAM (lift.py): X11_stand, X11_carry, X11_boundOf, X11_answer, X11_number, X11_length, X11_rowSum, X11_borrow, X11_bring. -/
section
def mX11_stand (F : Nat) (Ln : Nat → Nat) (l1I : Int32) (V : mV) : Option ((String ⊕ Int32) × (Nat → Nat) × mV) :=
  (mBT (mX11_refreshed F Ln (l1I) V) (fun v1 L2 V2 => (if 0 ≤ (V2.fI v1 3) then (mBW (mX11_remember F ((115 : Int32)) (l1I) V2) fun v7 V8 => (mLt (mF V8 v1 2 ((V8.fI v1 8))) fun V12 => (mLt (mF V12 v1 3 ((-1 : Int32))) fun V13 => some ((.inr ((V13.fI v1 2))), L2, V13)))) else (mTh L2 "java/lang/UnsupportedOperationException" V2))) (fun E0 L0 V0 => some (.inl E0, L0, V0)))
set_option maxHeartbeats 4000000 in
set_option maxRecDepth 100000 in
theorem MX11_stand {F : Nat} {Ln Ln1 : Nat → Nat} {V V1 : mV} {v : (String ⊕ Int32)} {l1I : Int32} (h : mX11_stand F Ln l1I V = some (v, Ln1, V1)) : mP Ln1 ≤ mP Ln := by
  unfold mX11_stand at h
  rcases mBT_some h with ⟨_, _, _, z1, h⟩ | ⟨_, _, _, z1, h⟩
  · cases h
    exact MX11_refreshed z1
  · refine Nat.le_trans ?_ (MX11_refreshed z1)
    rcases mIf_some h with ⟨_, h⟩ | ⟨_, h⟩
    · obtain ⟨_, _, _, h⟩ := mBW_some h
      obtain ⟨_, _, h⟩ := mLt_some h
      obtain ⟨_, _, h⟩ := mLt_some h
      cases h
      exact Nat.le_refl _
    · obtain ⟨rfl, rfl, rfl, hth⟩ := mTh_some h
      omega
set_option maxHeartbeats 4000000 in
set_option maxRecDepth 100000 in
theorem LX11_stand {α : Nat → Nat} {F : Nat} {S : wPS} {Ln Ln1 : Nat → Nat} {V V1 : mV} {v : (String ⊕ Int32)} {Φ : (Int32 → wPS → Prop)} {Ψ : String → wPS → Prop} {l0Ax : Nat} {l1Ix l1I : Int32} {k0 n0 : Nat} (h : mX11_stand F Ln l1I V = some (v, Ln1, V1)) (R : mRel α S Ln V) (el0A : l0Ax = α 0) (el1I : l1Ix = l1I) (hk : (mP Ln - mP Ln1) / 16 ≤ k0) (hn : mP Ln - mP Ln1 ≤ n0) (k : (∀ S1, mRel α S1 Ln1 V1 → mFr α S S1 → mOut Φ Ψ v S1)) : rX11_stand F k0 n0 l0Ax l1Ix S Φ Ψ := by
  have el0A := el0A.symm
  subst el0A
  have el1I := el1I.symm
  subst el1I
  unfold mX11_stand at h
  unfold rX11_stand
  rcases mBT_some h with ⟨E0, L0, V0, z0, h⟩ | ⟨v1, L2, V2, hv1, h⟩
  · have m0 : mP L0 ≤ mP Ln := MX11_refreshed z0
    obtain ⟨rfl, rfl, rfl⟩ := mRA3 h
    refine ⟨(mP Ln - mP L0) / 16, mP Ln - mP L0, by omega, by omega, ?_⟩
    exact LX11_refreshed_E z0 R rfl rfl (by omega) (by omega) (fun S0 R0 F0 => k S0 R0 F0)
  · have mv1 : mP L2 ≤ mP Ln := MX11_refreshed hv1
    have qv1 : mP Ln1 ≤ mP L2 := by
      rcases mIf_some h with ⟨_, h⟩ | ⟨_, h⟩
      · obtain ⟨_, _, _, h⟩ := mBW_some h
        obtain ⟨_, _, h⟩ := mLt_some h
        obtain ⟨_, _, h⟩ := mLt_some h
        cases h
        exact Nat.le_refl _
      · obtain ⟨rfl, rfl, rfl, hth⟩ := mTh_some h
        omega
    refine ⟨(mP Ln - mP L2) / 16, mP Ln - mP L2, by omega, by omega, ?_⟩
    refine LX11_refreshed_V hv1 R rfl rfl (by omega) (by omega) (fun S2 R2 F2 sv1 => ?_)
    refine mIf h (by rw [show gEntry_leaning S2 (α v1) = V2.fI v1 3 from (mg_I (i := v1) R2 (mO3 sv1) rfl 3)]) (fun c2 h => ?_) (fun c2 h => ?_)
    · obtain ⟨v7, V8, hv7, h⟩ := mBW_some h
      refine LX11_remember hv7 R2 rfl rfl rfl (fun S8 R8 F8 => ?_)
      obtain ⟨V12, eV12, h⟩ := mLt_some h
      refine mU_F eV12 R8 (mO3 sv1) rfl (by rw [show gEntry_boundNow S8 (α v1) = V8.fI v1 8 from (mg_I (i := v1) R8 (mO3 sv1) rfl 8)]) (fun S12 R12 F12 => ?_)
      obtain ⟨V13, eV13, h⟩ := mLt_some h
      refine mU_F eV13 R12 (mO3 sv1) rfl rfl (fun S13 R13 F13 => ?_)
      obtain ⟨rfl, rfl, rfl⟩ := mRA3 h
      rw [show gEntry_bound S13 (α v1) = V13.fI v1 2 from (mg_I (i := v1) R13 (mO3 sv1) rfl 2)]
      exact k _ R13 (F2.tr (F8.tr (F12.tr F13)))
    · obtain ⟨rfl, rfl, rfl, hth⟩ := mTh_some h
      exact ⟨by omega, by omega, k _ (mRel_th R2) F2⟩
theorem LX11_stand_E {α : Nat → Nat} {F : Nat} {S : wPS} {Ln Ln1 : Nat → Nat} {V V1 : mV} {e : String} {Φ : (Int32 → wPS → Prop)} {Ψ : String → wPS → Prop} {l0Ax : Nat} {l1Ix l1I : Int32} {k0 n0 : Nat} (h : mX11_stand F Ln l1I V = some (.inl e, Ln1, V1)) (R : mRel α S Ln V) (el0A : l0Ax = α 0) (el1I : l1Ix = l1I) (hk : (mP Ln - mP Ln1) / 16 ≤ k0) (hn : mP Ln - mP Ln1 ≤ n0) (k : ∀ S1, mRel α S1 Ln1 V1 → mFr α S S1 → Ψ e S1) : rX11_stand F k0 n0 l0Ax l1Ix S Φ Ψ := LX11_stand h R el0A el1I hk hn k
theorem LX11_stand_V {α : Nat → Nat} {F : Nat} {S : wPS} {Ln Ln1 : Nat → Nat} {V V1 : mV} {a : Int32} {Φ : (Int32 → wPS → Prop)} {Ψ : String → wPS → Prop} {l0Ax : Nat} {l1Ix l1I : Int32} {k0 n0 : Nat} (h : mX11_stand F Ln l1I V = some (.inr a, Ln1, V1)) (R : mRel α S Ln V) (el0A : l0Ax = α 0) (el1I : l1Ix = l1I) (hk : (mP Ln - mP Ln1) / 16 ≤ k0) (hn : mP Ln - mP Ln1 ≤ n0) (k : ∀ S1, mRel α S1 Ln1 V1 → mFr α S S1 → Φ a S1) : rX11_stand F k0 n0 l0Ax l1Ix S Φ Ψ := LX11_stand h R el0A el1I hk hn k
def mX11_carry (F : Nat) (Ln : Nat → Nat) (l1I : Int32) (l2I : Int32) (V : mV) : Option ((String ⊕ Int32) × (Nat → Nat) × mV) :=
  (mBT (mX11_refreshed F Ln (l1I) V) (fun v1 L2 V2 => (mBN (mJ0_indexOf_0f7a4 F (l2I)) fun v6 => (if 0 ≤ v6 then (mBW (mX4_carriesOver F v1 (v6) 544 V2) fun v12 V13 => (if v12 = 0 then (mTh L2 "java/lang/UnsupportedOperationException" V13) else (if (V13.fI 0 2) < (12 : Int32) then (if (V13.fI 0 2) < 0 ∨ 12 ≤ ((V13.fI 0 2)).toNatClampNeg then none else (mBW (mX3_begin F (256 + 8 * ((V13.fI 0 2)).toNatClampNeg) (v6) ((V13.fI 544 1)) ((V13.fI 544 2)) V13) fun v21 V22 => (mBW (mX3_copyQuestion F (256 + 8 * ((V13.fI 0 2)).toNatClampNeg) 544 V22) fun v26 V27 => (mLt (mF V27 (256 + 8 * ((V13.fI 0 2)).toNatClampNeg) 5 (l1I)) fun V31 => (mBW (mX11_remember F ((121 : Int32)) ((V31.fI 0 2)) V31) fun v32 V33 => (mLt (mF V33 0 2 (((V33.fI 0 2) + (1 : Int32)))) fun V37 => some ((.inr (((V37.fI 0 2) - (1 : Int32)))), L2, V37))))))) else (mTh L2 "java/lang/IllegalStateException" V13)))) else (mTh L2 "java/lang/IllegalArgumentException" V2)))) (fun E0 L0 V0 => some (.inl E0, L0, V0)))
set_option maxHeartbeats 4000000 in
set_option maxRecDepth 100000 in
theorem MX11_carry {F : Nat} {Ln Ln1 : Nat → Nat} {V V1 : mV} {v : (String ⊕ Int32)} {l1I : Int32} {l2I : Int32} (h : mX11_carry F Ln l1I l2I V = some (v, Ln1, V1)) : mP Ln1 ≤ mP Ln := by
  unfold mX11_carry at h
  rcases mBT_some h with ⟨_, _, _, z1, h⟩ | ⟨_, _, _, z1, h⟩
  · cases h
    exact MX11_refreshed z1
  · refine Nat.le_trans ?_ (MX11_refreshed z1)
    obtain ⟨_, _, h⟩ := mBN_some h
    rcases mIf_some h with ⟨_, h⟩ | ⟨_, h⟩
    · obtain ⟨_, _, _, h⟩ := mBW_some h
      rcases mIf_some h with ⟨_, h⟩ | ⟨_, h⟩
      · obtain ⟨rfl, rfl, rfl, hth⟩ := mTh_some h
        omega
      · rcases mIf_some h with ⟨_, h⟩ | ⟨_, h⟩
        · obtain ⟨_, h⟩ := mGd_some h
          obtain ⟨_, _, _, h⟩ := mBW_some h
          obtain ⟨_, _, _, h⟩ := mBW_some h
          obtain ⟨_, _, h⟩ := mLt_some h
          obtain ⟨_, _, _, h⟩ := mBW_some h
          obtain ⟨_, _, h⟩ := mLt_some h
          cases h
          exact Nat.le_refl _
        · obtain ⟨rfl, rfl, rfl, hth⟩ := mTh_some h
          omega
    · obtain ⟨rfl, rfl, rfl, hth⟩ := mTh_some h
      omega
set_option maxHeartbeats 4000000 in
set_option maxRecDepth 100000 in
theorem LX11_carry {α : Nat → Nat} {F : Nat} {S : wPS} {Ln Ln1 : Nat → Nat} {V V1 : mV} {v : (String ⊕ Int32)} {Φ : (Int32 → wPS → Prop)} {Ψ : String → wPS → Prop} {l0Ax : Nat} {l1Ix l1I : Int32} {l2Ix l2I : Int32} {k0 n0 : Nat} (h : mX11_carry F Ln l1I l2I V = some (v, Ln1, V1)) (R : mRel α S Ln V) (el0A : l0Ax = α 0) (el1I : l1Ix = l1I) (el2I : l2Ix = l2I) (hk : (mP Ln - mP Ln1) / 16 ≤ k0) (hn : mP Ln - mP Ln1 ≤ n0) (k : (∀ S1, mRel α S1 Ln1 V1 → mFr α S S1 → mOut Φ Ψ v S1)) : rX11_carry F k0 n0 l0Ax l1Ix l2Ix S Φ Ψ := by
  have el0A := el0A.symm
  subst el0A
  have el1I := el1I.symm
  subst el1I
  have el2I := el2I.symm
  subst el2I
  unfold mX11_carry at h
  unfold rX11_carry
  rcases mBT_some h with ⟨E0, L0, V0, z0, h⟩ | ⟨v1, L2, V2, hv1, h⟩
  · have m0 : mP L0 ≤ mP Ln := MX11_refreshed z0
    obtain ⟨rfl, rfl, rfl⟩ := mRA3 h
    refine ⟨(mP Ln - mP L0) / 16, mP Ln - mP L0, by omega, by omega, ?_⟩
    exact LX11_refreshed_E z0 R rfl rfl (by omega) (by omega) (fun S0 R0 F0 => k S0 R0 F0)
  · have mv1 : mP L2 ≤ mP Ln := MX11_refreshed hv1
    have qv1 : mP Ln1 ≤ mP L2 := by
      obtain ⟨_, _, h⟩ := mBN_some h
      rcases mIf_some h with ⟨_, h⟩ | ⟨_, h⟩
      · obtain ⟨_, _, _, h⟩ := mBW_some h
        rcases mIf_some h with ⟨_, h⟩ | ⟨_, h⟩
        · obtain ⟨rfl, rfl, rfl, hth⟩ := mTh_some h
          omega
        · rcases mIf_some h with ⟨_, h⟩ | ⟨_, h⟩
          · obtain ⟨_, h⟩ := mGd_some h
            obtain ⟨_, _, _, h⟩ := mBW_some h
            obtain ⟨_, _, _, h⟩ := mBW_some h
            obtain ⟨_, _, h⟩ := mLt_some h
            obtain ⟨_, _, _, h⟩ := mBW_some h
            obtain ⟨_, _, h⟩ := mLt_some h
            cases h
            exact Nat.le_refl _
          · obtain ⟨rfl, rfl, rfl, hth⟩ := mTh_some h
            omega
      · obtain ⟨rfl, rfl, rfl, hth⟩ := mTh_some h
        omega
    refine ⟨(mP Ln - mP L2) / 16, mP Ln - mP L2, by omega, by omega, ?_⟩
    refine LX11_refreshed_V hv1 R rfl rfl (by omega) (by omega) (fun S2 R2 F2 sv1 => ?_)
    obtain ⟨v6, hv6, h⟩ := mBN_some h
    refine LJ0_indexOf_0f7a4 hv6 rfl ?_
    refine mIf h Iff.rfl (fun c2 h => ?_) (fun c2 h => ?_)
    · obtain ⟨v12, V13, hv12, h⟩ := mBW_some h
      refine LX4_carriesOver hv12 R2 sv1 rfl (mg_A (t := 1) R2 rfl rfl) rfl rfl (mg_A (t := 544) R2 rfl rfl) (fun S13 R13 F13 => ?_)
      refine mIf h Iff.rfl (fun c3 h => ?_) (fun c3 h => ?_)
      · obtain ⟨rfl, rfl, rfl, hth⟩ := mTh_some h
        exact ⟨by omega, by omega, k _ (mRel_th R13) (F2.tr F13)⟩
      · refine mIf h (by rw [show gWitnessworks_entryCount S13 (α 0) = V13.fI 0 2 from (mg_I (i := 0) R13 (by decide) rfl 2)]) (fun c4 h => ?_) (fun c4 h => ?_)
        · refine mGd h (by rw [show S13.len (wkAd (gWitnessworks_book S13 (α 0))) = 12 from (mg_len (i := 10) R13 (mAr (by decide)) (mg_A (t := 10) R13 rfl rfl)), show gWitnessworks_entryCount S13 (α 0) = V13.fI 0 2 from (mg_I (i := 0) R13 (by decide) rfl 2)]) (fun c5 h => ?_)
          obtain ⟨v21, V22, hv21, h⟩ := mBW_some h
          refine LX3_begin hv21 R13 (mKA10 (Nat.lt_of_not_le (fun z => c5 (Or.inr z)))) (mg_RA R13 (mRA10 (Nat.lt_of_not_le (fun z => c5 (Or.inr z)))) (mg_A (t := 10) R13 rfl rfl) (by rw [show gWitnessworks_entryCount S13 (α 0) = V13.fI 0 2 from (mg_I (i := 0) R13 (by decide) rfl 2)])) rfl (by rw [show gEntry_size S13 (wkAd (gWitnessworks_draft S13 (α 0))) = V13.fI 544 1 from (mg_I (i := 544) R13 (by decide) (mg_A (t := 544) R13 rfl rfl) 1)]) (by rw [show gEntry_bound S13 (wkAd (gWitnessworks_draft S13 (α 0))) = V13.fI 544 2 from (mg_I (i := 544) R13 (by decide) (mg_A (t := 544) R13 rfl rfl) 2)]) (fun S22 R22 F22 => ?_)
          obtain ⟨v26, V27, hv26, h⟩ := mBW_some h
          refine LX3_copyQuestion hv26 R22 (mKA10 (Nat.lt_of_not_le (fun z => c5 (Or.inr z)))) rfl (mg_RA R13 (mRA10 (Nat.lt_of_not_le (fun z => c5 (Or.inr z)))) (mg_A (t := 10) R13 rfl rfl) (by rw [show gWitnessworks_entryCount S13 (α 0) = V13.fI 0 2 from (mg_I (i := 0) R13 (by decide) rfl 2)])) (mg_A (t := 544) R22 rfl rfl) (fun S27 R27 F27 => ?_)
          obtain ⟨V31, eV31, h⟩ := mLt_some h
          refine mU_F eV31 R27 (mO3 (mKA10 (Nat.lt_of_not_le (fun z => c5 (Or.inr z))))) (mg_RA R13 (mRA10 (Nat.lt_of_not_le (fun z => c5 (Or.inr z)))) (mg_A (t := 10) R13 rfl rfl) (by rw [show gWitnessworks_entryCount S13 (α 0) = V13.fI 0 2 from (mg_I (i := 0) R13 (by decide) rfl 2)])) rfl (fun S31 R31 F31 => ?_)
          obtain ⟨v32, V33, hv32, h⟩ := mBW_some h
          refine LX11_remember hv32 R31 rfl rfl (by rw [show gWitnessworks_entryCount S31 (α 0) = V31.fI 0 2 from (mg_I (i := 0) R31 (by decide) rfl 2)]) (fun S33 R33 F33 => ?_)
          obtain ⟨V37, eV37, h⟩ := mLt_some h
          refine mU_F eV37 R33 (by decide) rfl (by rw [show gWitnessworks_entryCount S33 (α 0) = V33.fI 0 2 from (mg_I (i := 0) R33 (by decide) rfl 2)]) (fun S37 R37 F37 => ?_)
          obtain ⟨rfl, rfl, rfl⟩ := mRA3 h
          rw [show gWitnessworks_entryCount S37 (α 0) = V37.fI 0 2 from (mg_I (i := 0) R37 (by decide) rfl 2)]
          exact k _ R37 (F2.tr (F13.tr (F22.tr (F27.tr (F31.tr (F33.tr F37))))))
        · obtain ⟨rfl, rfl, rfl, hth⟩ := mTh_some h
          exact ⟨by omega, by omega, k _ (mRel_th R13) (F2.tr F13)⟩
    · obtain ⟨rfl, rfl, rfl, hth⟩ := mTh_some h
      exact ⟨by omega, by omega, k _ (mRel_th R2) F2⟩
theorem LX11_carry_E {α : Nat → Nat} {F : Nat} {S : wPS} {Ln Ln1 : Nat → Nat} {V V1 : mV} {e : String} {Φ : (Int32 → wPS → Prop)} {Ψ : String → wPS → Prop} {l0Ax : Nat} {l1Ix l1I : Int32} {l2Ix l2I : Int32} {k0 n0 : Nat} (h : mX11_carry F Ln l1I l2I V = some (.inl e, Ln1, V1)) (R : mRel α S Ln V) (el0A : l0Ax = α 0) (el1I : l1Ix = l1I) (el2I : l2Ix = l2I) (hk : (mP Ln - mP Ln1) / 16 ≤ k0) (hn : mP Ln - mP Ln1 ≤ n0) (k : ∀ S1, mRel α S1 Ln1 V1 → mFr α S S1 → Ψ e S1) : rX11_carry F k0 n0 l0Ax l1Ix l2Ix S Φ Ψ := LX11_carry h R el0A el1I el2I hk hn k
theorem LX11_carry_V {α : Nat → Nat} {F : Nat} {S : wPS} {Ln Ln1 : Nat → Nat} {V V1 : mV} {a : Int32} {Φ : (Int32 → wPS → Prop)} {Ψ : String → wPS → Prop} {l0Ax : Nat} {l1Ix l1I : Int32} {l2Ix l2I : Int32} {k0 n0 : Nat} (h : mX11_carry F Ln l1I l2I V = some (.inr a, Ln1, V1)) (R : mRel α S Ln V) (el0A : l0Ax = α 0) (el1I : l1Ix = l1I) (el2I : l2Ix = l2I) (hk : (mP Ln - mP Ln1) / 16 ≤ k0) (hn : mP Ln - mP Ln1 ≤ n0) (k : ∀ S1, mRel α S1 Ln1 V1 → mFr α S S1 → Φ a S1) : rX11_carry F k0 n0 l0Ax l1Ix l2Ix S Φ Ψ := LX11_carry h R el0A el1I el2I hk hn k
def mX11_boundOf (F : Nat) (Ln : Nat → Nat) (l1I : Int32) (V : mV) : Option ((String ⊕ Int32) × (Nat → Nat) × mV) :=
  (mBT (mX11_refreshed F Ln (l1I) V) (fun v1 L2 V2 => some ((.inr ((V2.fI v1 8))), L2, V2)) (fun E0 L0 V0 => some (.inl E0, L0, V0)))
set_option maxHeartbeats 4000000 in
set_option maxRecDepth 100000 in
theorem MX11_boundOf {F : Nat} {Ln Ln1 : Nat → Nat} {V V1 : mV} {v : (String ⊕ Int32)} {l1I : Int32} (h : mX11_boundOf F Ln l1I V = some (v, Ln1, V1)) : mP Ln1 ≤ mP Ln := by
  unfold mX11_boundOf at h
  rcases mBT_some h with ⟨_, _, _, z1, h⟩ | ⟨_, _, _, z1, h⟩
  · cases h
    exact MX11_refreshed z1
  · refine Nat.le_trans ?_ (MX11_refreshed z1)
    cases h
    exact Nat.le_refl _
set_option maxHeartbeats 4000000 in
set_option maxRecDepth 100000 in
theorem LX11_boundOf {α : Nat → Nat} {F : Nat} {S : wPS} {Ln Ln1 : Nat → Nat} {V V1 : mV} {v : (String ⊕ Int32)} {Φ : (Int32 → wPS → Prop)} {Ψ : String → wPS → Prop} {l0Ax : Nat} {l1Ix l1I : Int32} {k0 n0 : Nat} (h : mX11_boundOf F Ln l1I V = some (v, Ln1, V1)) (R : mRel α S Ln V) (el0A : l0Ax = α 0) (el1I : l1Ix = l1I) (hk : (mP Ln - mP Ln1) / 16 ≤ k0) (hn : mP Ln - mP Ln1 ≤ n0) (k : (∀ S1, mRel α S1 Ln1 V1 → mFr α S S1 → mOut Φ Ψ v S1)) : rX11_boundOf F k0 n0 l0Ax l1Ix S Φ Ψ := by
  have el0A := el0A.symm
  subst el0A
  have el1I := el1I.symm
  subst el1I
  unfold mX11_boundOf at h
  unfold rX11_boundOf
  rcases mBT_some h with ⟨E0, L0, V0, z0, h⟩ | ⟨v1, L2, V2, hv1, h⟩
  · have m0 : mP L0 ≤ mP Ln := MX11_refreshed z0
    obtain ⟨rfl, rfl, rfl⟩ := mRA3 h
    refine ⟨(mP Ln - mP L0) / 16, mP Ln - mP L0, by omega, by omega, ?_⟩
    exact LX11_refreshed_E z0 R rfl rfl (by omega) (by omega) (fun S0 R0 F0 => k S0 R0 F0)
  · have mv1 : mP L2 ≤ mP Ln := MX11_refreshed hv1
    have qv1 : mP Ln1 ≤ mP L2 := by
      cases h
      exact Nat.le_refl _
    refine ⟨(mP Ln - mP L2) / 16, mP Ln - mP L2, by omega, by omega, ?_⟩
    refine LX11_refreshed_V hv1 R rfl rfl (by omega) (by omega) (fun S2 R2 F2 sv1 => ?_)
    obtain ⟨rfl, rfl, rfl⟩ := mRA3 h
    rw [show gEntry_boundNow S2 (α v1) = V2.fI v1 8 from (mg_I (i := v1) R2 (mO3 sv1) rfl 8)]
    exact k _ R2 F2
theorem LX11_boundOf_E {α : Nat → Nat} {F : Nat} {S : wPS} {Ln Ln1 : Nat → Nat} {V V1 : mV} {e : String} {Φ : (Int32 → wPS → Prop)} {Ψ : String → wPS → Prop} {l0Ax : Nat} {l1Ix l1I : Int32} {k0 n0 : Nat} (h : mX11_boundOf F Ln l1I V = some (.inl e, Ln1, V1)) (R : mRel α S Ln V) (el0A : l0Ax = α 0) (el1I : l1Ix = l1I) (hk : (mP Ln - mP Ln1) / 16 ≤ k0) (hn : mP Ln - mP Ln1 ≤ n0) (k : ∀ S1, mRel α S1 Ln1 V1 → mFr α S S1 → Ψ e S1) : rX11_boundOf F k0 n0 l0Ax l1Ix S Φ Ψ := LX11_boundOf h R el0A el1I hk hn k
theorem LX11_boundOf_V {α : Nat → Nat} {F : Nat} {S : wPS} {Ln Ln1 : Nat → Nat} {V V1 : mV} {a : Int32} {Φ : (Int32 → wPS → Prop)} {Ψ : String → wPS → Prop} {l0Ax : Nat} {l1Ix l1I : Int32} {k0 n0 : Nat} (h : mX11_boundOf F Ln l1I V = some (.inr a, Ln1, V1)) (R : mRel α S Ln V) (el0A : l0Ax = α 0) (el1I : l1Ix = l1I) (hk : (mP Ln - mP Ln1) / 16 ≤ k0) (hn : mP Ln - mP Ln1 ≤ n0) (k : ∀ S1, mRel α S1 Ln1 V1 → mFr α S S1 → Φ a S1) : rX11_boundOf F k0 n0 l0Ax l1Ix S Φ Ψ := LX11_boundOf h R el0A el1I hk hn k
def mX11_answer (F : Nat) (Ln : Nat → Nat) (l1I : Int32) (V : mV) : Option ((String ⊕ Int32) × (Nat → Nat) × mV) :=
  (mBT (mX11_refreshed F Ln (l1I) V) (fun v1 L2 V2 => (if ¬ ((((V2.fI v1 11) : Int32).toUInt32 % 65536).toInt32 = (V2.fI v1 11)) then none else some ((.inr ((V2.fI v1 11))), L2, V2))) (fun E0 L0 V0 => some (.inl E0, L0, V0)))
set_option maxHeartbeats 4000000 in
set_option maxRecDepth 100000 in
theorem MX11_answer {F : Nat} {Ln Ln1 : Nat → Nat} {V V1 : mV} {v : (String ⊕ Int32)} {l1I : Int32} (h : mX11_answer F Ln l1I V = some (v, Ln1, V1)) : mP Ln1 ≤ mP Ln := by
  unfold mX11_answer at h
  rcases mBT_some h with ⟨_, _, _, z1, h⟩ | ⟨_, _, _, z1, h⟩
  · cases h
    exact MX11_refreshed z1
  · refine Nat.le_trans ?_ (MX11_refreshed z1)
    obtain ⟨_, h⟩ := mGd_some h
    cases h
    exact Nat.le_refl _
set_option maxHeartbeats 4000000 in
set_option maxRecDepth 100000 in
theorem LX11_answer {α : Nat → Nat} {F : Nat} {S : wPS} {Ln Ln1 : Nat → Nat} {V V1 : mV} {v : (String ⊕ Int32)} {Φ : (Int32 → wPS → Prop)} {Ψ : String → wPS → Prop} {l0Ax : Nat} {l1Ix l1I : Int32} {k0 n0 : Nat} (h : mX11_answer F Ln l1I V = some (v, Ln1, V1)) (R : mRel α S Ln V) (el0A : l0Ax = α 0) (el1I : l1Ix = l1I) (hk : (mP Ln - mP Ln1) / 16 ≤ k0) (hn : mP Ln - mP Ln1 ≤ n0) (k : (∀ S1, mRel α S1 Ln1 V1 → mFr α S S1 → mOut Φ Ψ v S1)) : rX11_answer F k0 n0 l0Ax l1Ix S Φ Ψ := by
  have el0A := el0A.symm
  subst el0A
  have el1I := el1I.symm
  subst el1I
  unfold mX11_answer at h
  unfold rX11_answer
  rcases mBT_some h with ⟨E0, L0, V0, z0, h⟩ | ⟨v1, L2, V2, hv1, h⟩
  · have m0 : mP L0 ≤ mP Ln := MX11_refreshed z0
    obtain ⟨rfl, rfl, rfl⟩ := mRA3 h
    refine ⟨(mP Ln - mP L0) / 16, mP Ln - mP L0, by omega, by omega, ?_⟩
    exact LX11_refreshed_E z0 R rfl rfl (by omega) (by omega) (fun S0 R0 F0 => k S0 R0 F0)
  · have mv1 : mP L2 ≤ mP Ln := MX11_refreshed hv1
    have qv1 : mP Ln1 ≤ mP L2 := by
      obtain ⟨_, h⟩ := mGd_some h
      cases h
      exact Nat.le_refl _
    refine ⟨(mP Ln - mP L2) / 16, mP Ln - mP L2, by omega, by omega, ?_⟩
    refine LX11_refreshed_V hv1 R rfl rfl (by omega) (by omega) (fun S2 R2 F2 sv1 => ?_)
    refine mGp h (by rw [show gEntry_reply S2 (α v1) = V2.fI v1 11 from (mg_I (i := v1) R2 (mO3 sv1) rfl 11)]) (fun c2 h => ?_)
    obtain ⟨rfl, rfl, rfl⟩ := mRA3 h
    rw [show gEntry_reply S2 (α v1) = V2.fI v1 11 from (mg_I (i := v1) R2 (mO3 sv1) rfl 11)]
    exact k _ R2 F2
theorem LX11_answer_E {α : Nat → Nat} {F : Nat} {S : wPS} {Ln Ln1 : Nat → Nat} {V V1 : mV} {e : String} {Φ : (Int32 → wPS → Prop)} {Ψ : String → wPS → Prop} {l0Ax : Nat} {l1Ix l1I : Int32} {k0 n0 : Nat} (h : mX11_answer F Ln l1I V = some (.inl e, Ln1, V1)) (R : mRel α S Ln V) (el0A : l0Ax = α 0) (el1I : l1Ix = l1I) (hk : (mP Ln - mP Ln1) / 16 ≤ k0) (hn : mP Ln - mP Ln1 ≤ n0) (k : ∀ S1, mRel α S1 Ln1 V1 → mFr α S S1 → Ψ e S1) : rX11_answer F k0 n0 l0Ax l1Ix S Φ Ψ := LX11_answer h R el0A el1I hk hn k
theorem LX11_answer_V {α : Nat → Nat} {F : Nat} {S : wPS} {Ln Ln1 : Nat → Nat} {V V1 : mV} {a : Int32} {Φ : (Int32 → wPS → Prop)} {Ψ : String → wPS → Prop} {l0Ax : Nat} {l1Ix l1I : Int32} {k0 n0 : Nat} (h : mX11_answer F Ln l1I V = some (.inr a, Ln1, V1)) (R : mRel α S Ln V) (el0A : l0Ax = α 0) (el1I : l1Ix = l1I) (hk : (mP Ln - mP Ln1) / 16 ≤ k0) (hn : mP Ln - mP Ln1 ≤ n0) (k : ∀ S1, mRel α S1 Ln1 V1 → mFr α S S1 → Φ a S1) : rX11_answer F k0 n0 l0Ax l1Ix S Φ Ψ := LX11_answer h R el0A el1I hk hn k
def mX11_number (F : Nat) (Ln : Nat → Nat) (l1I : Int32) (V : mV) : Option ((String ⊕ Int32) × (Nat → Nat) × mV) :=
  (mBT (mX11_refreshed F Ln (l1I) V) (fun v1 L2 V2 => some ((.inr ((V2.fI v1 12))), L2, V2)) (fun E0 L0 V0 => some (.inl E0, L0, V0)))
set_option maxHeartbeats 4000000 in
set_option maxRecDepth 100000 in
theorem MX11_number {F : Nat} {Ln Ln1 : Nat → Nat} {V V1 : mV} {v : (String ⊕ Int32)} {l1I : Int32} (h : mX11_number F Ln l1I V = some (v, Ln1, V1)) : mP Ln1 ≤ mP Ln := by
  unfold mX11_number at h
  rcases mBT_some h with ⟨_, _, _, z1, h⟩ | ⟨_, _, _, z1, h⟩
  · cases h
    exact MX11_refreshed z1
  · refine Nat.le_trans ?_ (MX11_refreshed z1)
    cases h
    exact Nat.le_refl _
set_option maxHeartbeats 4000000 in
set_option maxRecDepth 100000 in
theorem LX11_number {α : Nat → Nat} {F : Nat} {S : wPS} {Ln Ln1 : Nat → Nat} {V V1 : mV} {v : (String ⊕ Int32)} {Φ : (Int32 → wPS → Prop)} {Ψ : String → wPS → Prop} {l0Ax : Nat} {l1Ix l1I : Int32} {k0 n0 : Nat} (h : mX11_number F Ln l1I V = some (v, Ln1, V1)) (R : mRel α S Ln V) (el0A : l0Ax = α 0) (el1I : l1Ix = l1I) (hk : (mP Ln - mP Ln1) / 16 ≤ k0) (hn : mP Ln - mP Ln1 ≤ n0) (k : (∀ S1, mRel α S1 Ln1 V1 → mFr α S S1 → mOut Φ Ψ v S1)) : rX11_number F k0 n0 l0Ax l1Ix S Φ Ψ := by
  have el0A := el0A.symm
  subst el0A
  have el1I := el1I.symm
  subst el1I
  unfold mX11_number at h
  unfold rX11_number
  rcases mBT_some h with ⟨E0, L0, V0, z0, h⟩ | ⟨v1, L2, V2, hv1, h⟩
  · have m0 : mP L0 ≤ mP Ln := MX11_refreshed z0
    obtain ⟨rfl, rfl, rfl⟩ := mRA3 h
    refine ⟨(mP Ln - mP L0) / 16, mP Ln - mP L0, by omega, by omega, ?_⟩
    exact LX11_refreshed_E z0 R rfl rfl (by omega) (by omega) (fun S0 R0 F0 => k S0 R0 F0)
  · have mv1 : mP L2 ≤ mP Ln := MX11_refreshed hv1
    have qv1 : mP Ln1 ≤ mP L2 := by
      cases h
      exact Nat.le_refl _
    refine ⟨(mP Ln - mP L2) / 16, mP Ln - mP L2, by omega, by omega, ?_⟩
    refine LX11_refreshed_V hv1 R rfl rfl (by omega) (by omega) (fun S2 R2 F2 sv1 => ?_)
    obtain ⟨rfl, rfl, rfl⟩ := mRA3 h
    rw [show gEntry_told S2 (α v1) = V2.fI v1 12 from (mg_I (i := v1) R2 (mO3 sv1) rfl 12)]
    exact k _ R2 F2
theorem LX11_number_E {α : Nat → Nat} {F : Nat} {S : wPS} {Ln Ln1 : Nat → Nat} {V V1 : mV} {e : String} {Φ : (Int32 → wPS → Prop)} {Ψ : String → wPS → Prop} {l0Ax : Nat} {l1Ix l1I : Int32} {k0 n0 : Nat} (h : mX11_number F Ln l1I V = some (.inl e, Ln1, V1)) (R : mRel α S Ln V) (el0A : l0Ax = α 0) (el1I : l1Ix = l1I) (hk : (mP Ln - mP Ln1) / 16 ≤ k0) (hn : mP Ln - mP Ln1 ≤ n0) (k : ∀ S1, mRel α S1 Ln1 V1 → mFr α S S1 → Ψ e S1) : rX11_number F k0 n0 l0Ax l1Ix S Φ Ψ := LX11_number h R el0A el1I hk hn k
theorem LX11_number_V {α : Nat → Nat} {F : Nat} {S : wPS} {Ln Ln1 : Nat → Nat} {V V1 : mV} {a : Int32} {Φ : (Int32 → wPS → Prop)} {Ψ : String → wPS → Prop} {l0Ax : Nat} {l1Ix l1I : Int32} {k0 n0 : Nat} (h : mX11_number F Ln l1I V = some (.inr a, Ln1, V1)) (R : mRel α S Ln V) (el0A : l0Ax = α 0) (el1I : l1Ix = l1I) (hk : (mP Ln - mP Ln1) / 16 ≤ k0) (hn : mP Ln - mP Ln1 ≤ n0) (k : ∀ S1, mRel α S1 Ln1 V1 → mFr α S S1 → Φ a S1) : rX11_number F k0 n0 l0Ax l1Ix S Φ Ψ := LX11_number h R el0A el1I hk hn k
def mX11_length (F : Nat) (Ln : Nat → Nat) (l1I : Int32) (V : mV) : Option ((String ⊕ Int32) × (Nat → Nat) × mV) :=
  (mBT (mX11_refreshed F Ln (l1I) V) (fun v1 L2 V2 => some ((.inr ((V2.fI (v1 + 2) 1))), L2, V2)) (fun E0 L0 V0 => some (.inl E0, L0, V0)))
set_option maxHeartbeats 4000000 in
set_option maxRecDepth 100000 in
theorem MX11_length {F : Nat} {Ln Ln1 : Nat → Nat} {V V1 : mV} {v : (String ⊕ Int32)} {l1I : Int32} (h : mX11_length F Ln l1I V = some (v, Ln1, V1)) : mP Ln1 ≤ mP Ln := by
  unfold mX11_length at h
  rcases mBT_some h with ⟨_, _, _, z1, h⟩ | ⟨_, _, _, z1, h⟩
  · cases h
    exact MX11_refreshed z1
  · refine Nat.le_trans ?_ (MX11_refreshed z1)
    cases h
    exact Nat.le_refl _
set_option maxHeartbeats 4000000 in
set_option maxRecDepth 100000 in
theorem LX11_length {α : Nat → Nat} {F : Nat} {S : wPS} {Ln Ln1 : Nat → Nat} {V V1 : mV} {v : (String ⊕ Int32)} {Φ : (Int32 → wPS → Prop)} {Ψ : String → wPS → Prop} {l0Ax : Nat} {l1Ix l1I : Int32} {k0 n0 : Nat} (h : mX11_length F Ln l1I V = some (v, Ln1, V1)) (R : mRel α S Ln V) (el0A : l0Ax = α 0) (el1I : l1Ix = l1I) (hk : (mP Ln - mP Ln1) / 16 ≤ k0) (hn : mP Ln - mP Ln1 ≤ n0) (k : (∀ S1, mRel α S1 Ln1 V1 → mFr α S S1 → mOut Φ Ψ v S1)) : rX11_length F k0 n0 l0Ax l1Ix S Φ Ψ := by
  have el0A := el0A.symm
  subst el0A
  have el1I := el1I.symm
  subst el1I
  unfold mX11_length at h
  unfold rX11_length
  rcases mBT_some h with ⟨E0, L0, V0, z0, h⟩ | ⟨v1, L2, V2, hv1, h⟩
  · have m0 : mP L0 ≤ mP Ln := MX11_refreshed z0
    obtain ⟨rfl, rfl, rfl⟩ := mRA3 h
    refine ⟨(mP Ln - mP L0) / 16, mP Ln - mP L0, by omega, by omega, ?_⟩
    exact LX11_refreshed_E z0 R rfl rfl (by omega) (by omega) (fun S0 R0 F0 => k S0 R0 F0)
  · have mv1 : mP L2 ≤ mP Ln := MX11_refreshed hv1
    have qv1 : mP Ln1 ≤ mP L2 := by
      cases h
      exact Nat.le_refl _
    refine ⟨(mP Ln - mP L2) / 16, mP Ln - mP L2, by omega, by omega, ?_⟩
    refine LX11_refreshed_V hv1 R rfl rfl (by omega) (by omega) (fun S2 R2 F2 sv1 => ?_)
    obtain ⟨rfl, rfl, rfl⟩ := mRA3 h
    rw [show gRow_count S2 (wkAd (gEntry_row S2 (α v1))) = V2.fI (v1 + 2) 1 from (mg_I (i := (v1 + 2)) R2 (mO9 (mKe2 sv1)) (mg_A (t := (v1 + 2)) R2 (mRe sv1 rfl) rfl) 1)]
    exact k _ R2 F2
theorem LX11_length_E {α : Nat → Nat} {F : Nat} {S : wPS} {Ln Ln1 : Nat → Nat} {V V1 : mV} {e : String} {Φ : (Int32 → wPS → Prop)} {Ψ : String → wPS → Prop} {l0Ax : Nat} {l1Ix l1I : Int32} {k0 n0 : Nat} (h : mX11_length F Ln l1I V = some (.inl e, Ln1, V1)) (R : mRel α S Ln V) (el0A : l0Ax = α 0) (el1I : l1Ix = l1I) (hk : (mP Ln - mP Ln1) / 16 ≤ k0) (hn : mP Ln - mP Ln1 ≤ n0) (k : ∀ S1, mRel α S1 Ln1 V1 → mFr α S S1 → Ψ e S1) : rX11_length F k0 n0 l0Ax l1Ix S Φ Ψ := LX11_length h R el0A el1I hk hn k
theorem LX11_length_V {α : Nat → Nat} {F : Nat} {S : wPS} {Ln Ln1 : Nat → Nat} {V V1 : mV} {a : Int32} {Φ : (Int32 → wPS → Prop)} {Ψ : String → wPS → Prop} {l0Ax : Nat} {l1Ix l1I : Int32} {k0 n0 : Nat} (h : mX11_length F Ln l1I V = some (.inr a, Ln1, V1)) (R : mRel α S Ln V) (el0A : l0Ax = α 0) (el1I : l1Ix = l1I) (hk : (mP Ln - mP Ln1) / 16 ≤ k0) (hn : mP Ln - mP Ln1 ≤ n0) (k : ∀ S1, mRel α S1 Ln1 V1 → mFr α S S1 → Φ a S1) : rX11_length F k0 n0 l0Ax l1Ix S Φ Ψ := LX11_length h R el0A el1I hk hn k
def mX11_rowSum (F : Nat) (Ln : Nat → Nat) (l1I : Int32) (V : mV) : Option ((String ⊕ Int64) × (Nat → Nat) × mV) :=
  (mBT (mX11_refreshed F Ln (l1I) V) (fun v1 L2 V2 => (mBN (mX9_total F L2 (v1 + 2) V2) fun v6 => some ((.inr (v6)), L2, V2))) (fun E0 L0 V0 => some (.inl E0, L0, V0)))
set_option maxHeartbeats 4000000 in
set_option maxRecDepth 100000 in
theorem MX11_rowSum {F : Nat} {Ln Ln1 : Nat → Nat} {V V1 : mV} {v : (String ⊕ Int64)} {l1I : Int32} (h : mX11_rowSum F Ln l1I V = some (v, Ln1, V1)) : mP Ln1 ≤ mP Ln := by
  unfold mX11_rowSum at h
  rcases mBT_some h with ⟨_, _, _, z1, h⟩ | ⟨_, _, _, z1, h⟩
  · cases h
    exact MX11_refreshed z1
  · refine Nat.le_trans ?_ (MX11_refreshed z1)
    obtain ⟨_, _, h⟩ := mBN_some h
    cases h
    exact Nat.le_refl _
set_option maxHeartbeats 4000000 in
set_option maxRecDepth 100000 in
theorem LX11_rowSum {α : Nat → Nat} {F : Nat} {S : wPS} {Ln Ln1 : Nat → Nat} {V V1 : mV} {v : (String ⊕ Int64)} {Φ : (Int64 → wPS → Prop)} {Ψ : String → wPS → Prop} {l0Ax : Nat} {l1Ix l1I : Int32} {k0 n0 : Nat} (h : mX11_rowSum F Ln l1I V = some (v, Ln1, V1)) (R : mRel α S Ln V) (el0A : l0Ax = α 0) (el1I : l1Ix = l1I) (hk : (mP Ln - mP Ln1) / 16 ≤ k0) (hn : mP Ln - mP Ln1 ≤ n0) (k : (∀ S1, mRel α S1 Ln1 V1 → mFr α S S1 → mOut Φ Ψ v S1)) : rX11_rowSum F k0 n0 l0Ax l1Ix S Φ Ψ := by
  have el0A := el0A.symm
  subst el0A
  have el1I := el1I.symm
  subst el1I
  unfold mX11_rowSum at h
  unfold rX11_rowSum
  rcases mBT_some h with ⟨E0, L0, V0, z0, h⟩ | ⟨v1, L2, V2, hv1, h⟩
  · have m0 : mP L0 ≤ mP Ln := MX11_refreshed z0
    obtain ⟨rfl, rfl, rfl⟩ := mRA3 h
    refine ⟨(mP Ln - mP L0) / 16, mP Ln - mP L0, by omega, by omega, ?_⟩
    exact LX11_refreshed_E z0 R rfl rfl (by omega) (by omega) (fun S0 R0 F0 => k S0 R0 F0)
  · have mv1 : mP L2 ≤ mP Ln := MX11_refreshed hv1
    have qv1 : mP Ln1 ≤ mP L2 := by
      obtain ⟨_, _, h⟩ := mBN_some h
      cases h
      exact Nat.le_refl _
    refine ⟨(mP Ln - mP L2) / 16, mP Ln - mP L2, by omega, by omega, ?_⟩
    refine LX11_refreshed_V hv1 R rfl rfl (by omega) (by omega) (fun S2 R2 F2 sv1 => ?_)
    obtain ⟨v6, hv6, h⟩ := mBN_some h
    refine LX9_total hv6 R2 (mKe2 sv1) (mg_A (t := (v1 + 2)) R2 (mRe sv1 rfl) rfl) ?_
    obtain ⟨rfl, rfl, rfl⟩ := mRA3 h
    exact k _ R2 F2
theorem LX11_rowSum_E {α : Nat → Nat} {F : Nat} {S : wPS} {Ln Ln1 : Nat → Nat} {V V1 : mV} {e : String} {Φ : (Int64 → wPS → Prop)} {Ψ : String → wPS → Prop} {l0Ax : Nat} {l1Ix l1I : Int32} {k0 n0 : Nat} (h : mX11_rowSum F Ln l1I V = some (.inl e, Ln1, V1)) (R : mRel α S Ln V) (el0A : l0Ax = α 0) (el1I : l1Ix = l1I) (hk : (mP Ln - mP Ln1) / 16 ≤ k0) (hn : mP Ln - mP Ln1 ≤ n0) (k : ∀ S1, mRel α S1 Ln1 V1 → mFr α S S1 → Ψ e S1) : rX11_rowSum F k0 n0 l0Ax l1Ix S Φ Ψ := LX11_rowSum h R el0A el1I hk hn k
theorem LX11_rowSum_V {α : Nat → Nat} {F : Nat} {S : wPS} {Ln Ln1 : Nat → Nat} {V V1 : mV} {a : Int64} {Φ : (Int64 → wPS → Prop)} {Ψ : String → wPS → Prop} {l0Ax : Nat} {l1Ix l1I : Int32} {k0 n0 : Nat} (h : mX11_rowSum F Ln l1I V = some (.inr a, Ln1, V1)) (R : mRel α S Ln V) (el0A : l0Ax = α 0) (el1I : l1Ix = l1I) (hk : (mP Ln - mP Ln1) / 16 ≤ k0) (hn : mP Ln - mP Ln1 ≤ n0) (k : ∀ S1, mRel α S1 Ln1 V1 → mFr α S S1 → Φ a S1) : rX11_rowSum F k0 n0 l0Ax l1Ix S Φ Ψ := LX11_rowSum h R el0A el1I hk hn k
def mX11_borrow (F : Nat) (Ln : Nat → Nat) (l1I : Int32) (V : mV) : Option ((String ⊕ Int32) × (Nat → Nat) × mV) :=
  (mBT (mX11_refreshed F Ln (l1I) V) (fun v1 L2 V2 => (if (V2.fI (v1 + 2) 1) ≤ (64 : Int32) then (mBA (mX9_copy F L2 2048 (v1 + 2) V2) fun v7 L8 V8 => some ((.inr ((V8.fI 2048 1))), L8, V8)) else (mTh L2 "java/lang/UnsupportedOperationException" V2))) (fun E0 L0 V0 => some (.inl E0, L0, V0)))
set_option maxHeartbeats 4000000 in
set_option maxRecDepth 100000 in
theorem MX11_borrow {F : Nat} {Ln Ln1 : Nat → Nat} {V V1 : mV} {v : (String ⊕ Int32)} {l1I : Int32} (h : mX11_borrow F Ln l1I V = some (v, Ln1, V1)) : mP Ln1 ≤ mP Ln := by
  unfold mX11_borrow at h
  rcases mBT_some h with ⟨_, _, _, z1, h⟩ | ⟨_, _, _, z1, h⟩
  · cases h
    exact MX11_refreshed z1
  · refine Nat.le_trans ?_ (MX11_refreshed z1)
    rcases mIf_some h with ⟨_, h⟩ | ⟨_, h⟩
    · obtain ⟨_, _, _, z2, h⟩ := mBA_some h
      refine Nat.le_trans ?_ (MX9_copy z2)
      cases h
      exact Nat.le_refl _
    · obtain ⟨rfl, rfl, rfl, hth⟩ := mTh_some h
      omega
set_option maxHeartbeats 4000000 in
set_option maxRecDepth 100000 in
theorem LX11_borrow {α : Nat → Nat} {F : Nat} {S : wPS} {Ln Ln1 : Nat → Nat} {V V1 : mV} {v : (String ⊕ Int32)} {Φ : (Int32 → wPS → Prop)} {Ψ : String → wPS → Prop} {l0Ax : Nat} {l1Ix l1I : Int32} {k0 n0 : Nat} (h : mX11_borrow F Ln l1I V = some (v, Ln1, V1)) (R : mRel α S Ln V) (el0A : l0Ax = α 0) (el1I : l1Ix = l1I) (hk : (mP Ln - mP Ln1) / 16 ≤ k0) (hn : mP Ln - mP Ln1 ≤ n0) (k : (∀ S1, mRel α S1 Ln1 V1 → mFr α S S1 → mOut Φ Ψ v S1)) : rX11_borrow F k0 n0 l0Ax l1Ix S Φ Ψ := by
  have el0A := el0A.symm
  subst el0A
  have el1I := el1I.symm
  subst el1I
  unfold mX11_borrow at h
  unfold rX11_borrow
  rcases mBT_some h with ⟨E0, L0, V0, z0, h⟩ | ⟨v1, L2, V2, hv1, h⟩
  · have m0 : mP L0 ≤ mP Ln := MX11_refreshed z0
    obtain ⟨rfl, rfl, rfl⟩ := mRA3 h
    refine ⟨(mP Ln - mP L0) / 16, mP Ln - mP L0, by omega, by omega, ?_⟩
    exact LX11_refreshed_E z0 R rfl rfl (by omega) (by omega) (fun S0 R0 F0 => k S0 R0 F0)
  · have mv1 : mP L2 ≤ mP Ln := MX11_refreshed hv1
    have qv1 : mP Ln1 ≤ mP L2 := by
      rcases mIf_some h with ⟨_, h⟩ | ⟨_, h⟩
      · obtain ⟨_, _, _, z3, h⟩ := mBA_some h
        refine Nat.le_trans ?_ (MX9_copy z3)
        cases h
        exact Nat.le_refl _
      · obtain ⟨rfl, rfl, rfl, hth⟩ := mTh_some h
        omega
    refine ⟨(mP Ln - mP L2) / 16, mP Ln - mP L2, by omega, by omega, ?_⟩
    refine LX11_refreshed_V hv1 R rfl rfl (by omega) (by omega) (fun S2 R2 F2 sv1 => ?_)
    refine mIf h (by rw [show gRow_count S2 (wkAd (gEntry_row S2 (α v1))) = V2.fI (v1 + 2) 1 from (mg_I (i := (v1 + 2)) R2 (mO9 (mKe2 sv1)) (mg_A (t := (v1 + 2)) R2 (mRe sv1 rfl) rfl) 1)]) (fun c4 h => ?_) (fun c4 h => ?_)
    · obtain ⟨v7, L8, V8, hv7, h⟩ := mBA_some h
      have mv7 : mP L8 ≤ mP L2 := MX9_copy hv7
      have qv7 : mP Ln1 ≤ mP L8 := by
        cases h
        exact Nat.le_refl _
      refine ⟨(mP L2 - mP L8) / 16, mP L2 - mP L8, by omega, by omega, ?_⟩
      refine LX9_copy hv7 R2 rfl (mKe2 sv1) (mg_A (t := 2048) R2 rfl rfl) (mg_A (t := (v1 + 2)) R2 (mRe sv1 rfl) rfl) (by omega) (by omega) (fun S8 R8 F8 => ?_)
      obtain ⟨rfl, rfl, rfl⟩ := mRA3 h
      rw [show gRow_count S8 (wkAd (gWitnessworks_typed S8 (α 0))) = V8.fI 2048 1 from (mg_I (i := 2048) R8 (by decide) (mg_A (t := 2048) R8 rfl rfl) 1)]
      exact k _ R8 (F2.tr F8)
    · obtain ⟨rfl, rfl, rfl, hth⟩ := mTh_some h
      exact ⟨by omega, by omega, k _ (mRel_th R2) F2⟩
theorem LX11_borrow_E {α : Nat → Nat} {F : Nat} {S : wPS} {Ln Ln1 : Nat → Nat} {V V1 : mV} {e : String} {Φ : (Int32 → wPS → Prop)} {Ψ : String → wPS → Prop} {l0Ax : Nat} {l1Ix l1I : Int32} {k0 n0 : Nat} (h : mX11_borrow F Ln l1I V = some (.inl e, Ln1, V1)) (R : mRel α S Ln V) (el0A : l0Ax = α 0) (el1I : l1Ix = l1I) (hk : (mP Ln - mP Ln1) / 16 ≤ k0) (hn : mP Ln - mP Ln1 ≤ n0) (k : ∀ S1, mRel α S1 Ln1 V1 → mFr α S S1 → Ψ e S1) : rX11_borrow F k0 n0 l0Ax l1Ix S Φ Ψ := LX11_borrow h R el0A el1I hk hn k
theorem LX11_borrow_V {α : Nat → Nat} {F : Nat} {S : wPS} {Ln Ln1 : Nat → Nat} {V V1 : mV} {a : Int32} {Φ : (Int32 → wPS → Prop)} {Ψ : String → wPS → Prop} {l0Ax : Nat} {l1Ix l1I : Int32} {k0 n0 : Nat} (h : mX11_borrow F Ln l1I V = some (.inr a, Ln1, V1)) (R : mRel α S Ln V) (el0A : l0Ax = α 0) (el1I : l1Ix = l1I) (hk : (mP Ln - mP Ln1) / 16 ≤ k0) (hn : mP Ln - mP Ln1 ≤ n0) (k : ∀ S1, mRel α S1 Ln1 V1 → mFr α S S1 → Φ a S1) : rX11_borrow F k0 n0 l0Ax l1Ix S Φ Ψ := LX11_borrow h R el0A el1I hk hn k
def mX11_bring_b0 (F : Nat) (rec : Nat → (Nat → Nat) → Nat → mV → Option ((String ⊕ Int32) × (Nat → Nat) × mV)) (Ln : Nat → Nat) (l2A : Nat) (V : mV) : Option ((String ⊕ Int32) × (Nat → Nat) × mV) :=
  (mBW (mX11_wouldBeCarriedSo F l2A V) fun v1 V2 => (if v1 = 0 then (mTh Ln "java/lang/UnsupportedOperationException" V2) else (if (V2.fI l2A 5) < 0 ∨ 12 ≤ ((V2.fI l2A 5)).toNatClampNeg then none else (mBN (mX4_canBringBack F Ln l2A (256 + 8 * ((V2.fI l2A 5)).toNatClampNeg) V2) fun v9 => (if v9 = 0 then (mTh Ln "java/lang/UnsupportedOperationException" V2) else (if (V2.fI l2A 5) < 0 ∨ 12 ≤ ((V2.fI l2A 5)).toNatClampNeg then none else (mBA (mX4_bringBack F Ln l2A (256 + 8 * ((V2.fI l2A 5)).toNatClampNeg) 2048 V2) fun v17 L18 V18 => some ((.inr ((V18.fI 2048 1))), L18, V18))))))))
def mX11_bring_go (F : Nat) : Nat → Nat → (Nat → Nat) → Nat → mV → Option ((String ⊕ Int32) × (Nat → Nat) × mV)
  | 0, _, _, _, _ => none
  | k' + 1, lab, Ln, l2A, V => if lab = 0 then mX11_bring_b0 F (mX11_bring_go F k') Ln l2A V else none
def mX11_bring_s (F : Nat) (rec : Nat → (Nat → Nat) → Nat → mV → Option ((String ⊕ Int32) × (Nat → Nat) × mV)) (Ln : Nat → Nat) (l1I : Int32) (V : mV) : Option ((String ⊕ Int32) × (Nat → Nat) × mV) :=
  (mBT (mX11_refreshed F Ln (l1I) V) (fun v24 L25 V25 => (if (V25.fI v24 5) < 0 then (rec 0 L25 v24 V25) else (mBT (mX11_refreshed F L25 ((V25.fI v24 5)) V25) (fun v30 L31 V31 => (rec 0 L31 v24 V31)) (fun E0 L0 V0 => some (.inl E0, L0, V0))))) (fun E0 L0 V0 => some (.inl E0, L0, V0)))
def mX11_bring (F : Nat) (Ln : Nat → Nat) (l1I : Int32) (V : mV) : Option ((String ⊕ Int32) × (Nat → Nat) × mV) := mX11_bring_s F (mX11_bring_go F F) Ln l1I V
set_option maxHeartbeats 4000000 in
set_option maxRecDepth 100000 in
theorem MX11_bring_go {F : Nat} {v : (String ⊕ Int32)} {Ln1 : Nat → Nat} {V1 : mV} : ∀ k' : Nat, (∀ (l2A : Nat) (Ln : Nat → Nat) (V : mV), mX11_bring_go F k' 0 Ln l2A V = some (v, Ln1, V1) → mP Ln1 ≤ mP Ln) := by
  intro k'
  induction k' with
  | zero => exact (fun _ _ _ h => by cases h)
  | succ k' ihM =>
    skip
    intro l2A Ln V h
    rw [mX11_bring_go, if_pos rfl] at h
    unfold mX11_bring_b0 at h
    obtain ⟨_, _, _, h⟩ := mBW_some h
    rcases mIf_some h with ⟨_, h⟩ | ⟨_, h⟩
    · obtain ⟨rfl, rfl, rfl, hth⟩ := mTh_some h
      omega
    · obtain ⟨_, h⟩ := mGd_some h
      obtain ⟨_, _, h⟩ := mBN_some h
      rcases mIf_some h with ⟨_, h⟩ | ⟨_, h⟩
      · obtain ⟨rfl, rfl, rfl, hth⟩ := mTh_some h
        omega
      · obtain ⟨_, h⟩ := mGd_some h
        obtain ⟨_, _, _, z1, h⟩ := mBA_some h
        refine Nat.le_trans ?_ (MX4_bringBack z1)
        cases h
        exact Nat.le_refl _
set_option maxHeartbeats 4000000 in
set_option maxRecDepth 100000 in
theorem MX11_bring {F : Nat} {Ln Ln1 : Nat → Nat} {V V1 : mV} {v : (String ⊕ Int32)} {l1I : Int32} (h : mX11_bring F Ln l1I V = some (v, Ln1, V1)) : mP Ln1 ≤ mP Ln := by
  have ihM := MX11_bring_go (F := F) (v := v) (Ln1 := Ln1) (V1 := V1) F
  unfold mX11_bring mX11_bring_s at h
  rcases mBT_some h with ⟨_, _, _, z2, h⟩ | ⟨_, _, _, z2, h⟩
  · cases h
    exact MX11_refreshed z2
  · refine Nat.le_trans ?_ (MX11_refreshed z2)
    rcases mIf_some h with ⟨_, h⟩ | ⟨_, h⟩
    · exact ihM _ _ _ h
    · rcases mBT_some h with ⟨_, _, _, z3, h⟩ | ⟨_, _, _, z3, h⟩
      · cases h
        exact MX11_refreshed z3
      · refine Nat.le_trans ?_ (MX11_refreshed z3)
        exact ihM _ _ _ h
set_option maxHeartbeats 4000000 in
set_option maxRecDepth 100000 in
theorem LX11_bring_go {α : Nat → Nat} {k0 n0 : Nat} {F : Nat} {v : (String ⊕ Int32)} {Ln1 : Nat → Nat} {V1 : mV} {Φ : (Int32 → wPS → Prop)} {Ψ : String → wPS → Prop} : ∀ k' : Nat, (∀ (l2A : Nat) (S : wPS) (V : mV) (Ln : Nat → Nat) (c s : Nat), mRel α S Ln V → mK l2A = 3 → mX11_bring_go F k' 0 Ln l2A V = some (v, Ln1, V1) → c + (mP Ln - mP Ln1) / 16 ≤ k0 → s + (mP Ln - mP Ln1) ≤ n0 → (∀ S1, mRel α S1 Ln1 V1 → mFr α S S1 → mOut Φ Ψ v S1) → rX11_bring_go F k0 n0 k' 0 c s (α 0) (α l2A) S Φ Ψ) := by
  intro k'
  induction k' with
  | zero => exact (fun _ _ _ _ _ _ _ _ h _ _ _ => by cases h)
  | succ k' ih =>
    have ihM := MX11_bring_go (F := F) (v := v) (Ln1 := Ln1) (V1 := V1) k'
    intro l2A S V Ln c s R sl2A h hk hn k
    rw [mX11_bring_go, if_pos rfl] at h
    rw [rX11_bring_go, if_pos rfl]
    unfold mX11_bring_b0 at h
    unfold rX11_bring_b0
    obtain ⟨v1, V2, hv1, h⟩ := mBW_some h
    refine LX11_wouldBeCarriedSo hv1 R sl2A rfl rfl (fun S2 R2 F2 => ?_)
    refine mIf h Iff.rfl (fun c4 h => ?_) (fun c4 h => ?_)
    · obtain ⟨rfl, rfl, rfl, hth⟩ := mTh_some h
      exact ⟨by omega, by omega, k _ (mRel_th R2) F2⟩
    · refine mGd h (by rw [show S2.len (wkAd (gWitnessworks_book S2 (α 0))) = 12 from (mg_len (i := 10) R2 (mAr (by decide)) (mg_A (t := 10) R2 rfl rfl)), show gEntry_origin S2 (α l2A) = V2.fI l2A 5 from (mg_I (i := l2A) R2 (mO3 sl2A) rfl 5)]) (fun c5 h => ?_)
      obtain ⟨v9, hv9, h⟩ := mBN_some h
      refine LX4_canBringBack hv9 R2 sl2A (mKA10 (Nat.lt_of_not_le (fun z => c5 (Or.inr z)))) (mg_A (t := 1) R2 rfl rfl) rfl (mg_RA R2 (mRA10 (Nat.lt_of_not_le (fun z => c5 (Or.inr z)))) (mg_A (t := 10) R2 rfl rfl) (by rw [show gEntry_origin S2 (α l2A) = V2.fI l2A 5 from (mg_I (i := l2A) R2 (mO3 sl2A) rfl 5)])) ?_
      refine mIf h Iff.rfl (fun c6 h => ?_) (fun c6 h => ?_)
      · obtain ⟨rfl, rfl, rfl, hth⟩ := mTh_some h
        exact ⟨by omega, by omega, k _ (mRel_th R2) F2⟩
      · refine mGd h (by rw [show S2.len (wkAd (gWitnessworks_book S2 (α 0))) = 12 from (mg_len (i := 10) R2 (mAr (by decide)) (mg_A (t := 10) R2 rfl rfl)), show gEntry_origin S2 (α l2A) = V2.fI l2A 5 from (mg_I (i := l2A) R2 (mO3 sl2A) rfl 5)]) (fun c7 h => ?_)
        obtain ⟨v17, L18, V18, hv17, h⟩ := mBA_some h
        have mv17 : mP L18 ≤ mP Ln := MX4_bringBack hv17
        have qv17 : mP Ln1 ≤ mP L18 := by
          cases h
          exact Nat.le_refl _
        refine ⟨(mP Ln - mP L18) / 16, mP Ln - mP L18, by omega, by omega, ?_⟩
        refine LX4_bringBack hv17 R2 sl2A (mKA10 (Nat.lt_of_not_le (fun z => c7 (Or.inr z)))) rfl (mg_A (t := 1) R2 rfl rfl) rfl (mg_RA R2 (mRA10 (Nat.lt_of_not_le (fun z => c7 (Or.inr z)))) (mg_A (t := 10) R2 rfl rfl) (by rw [show gEntry_origin S2 (α l2A) = V2.fI l2A 5 from (mg_I (i := l2A) R2 (mO3 sl2A) rfl 5)])) (mg_A (t := 2048) R2 rfl rfl) (by omega) (by omega) (fun S18 R18 F18 => ?_)
        obtain ⟨rfl, rfl, rfl⟩ := mRA3 h
        rw [show gRow_count S18 (wkAd (gWitnessworks_typed S18 (α 0))) = V18.fI 2048 1 from (mg_I (i := 2048) R18 (by decide) (mg_A (t := 2048) R18 rfl rfl) 1)]
        exact k _ R18 (F2.tr F18)
set_option maxHeartbeats 4000000 in
set_option maxRecDepth 100000 in
theorem LX11_bring {α : Nat → Nat} {F : Nat} {S : wPS} {Ln Ln1 : Nat → Nat} {V V1 : mV} {v : (String ⊕ Int32)} {Φ : (Int32 → wPS → Prop)} {Ψ : String → wPS → Prop} {l0Ax : Nat} {l1Ix l1I : Int32} {k0 n0 : Nat} (h : mX11_bring F Ln l1I V = some (v, Ln1, V1)) (R : mRel α S Ln V) (el0A : l0Ax = α 0) (el1I : l1Ix = l1I) (hk : (mP Ln - mP Ln1) / 16 ≤ k0) (hn : mP Ln - mP Ln1 ≤ n0) (k : (∀ S1, mRel α S1 Ln1 V1 → mFr α S S1 → mOut Φ Ψ v S1)) : rX11_bring F k0 n0 l0Ax l1Ix S Φ Ψ := by
  have el0A := el0A.symm
  subst el0A
  have el1I := el1I.symm
  subst el1I
  have ih := LX11_bring_go  (α := α) (F := F) (v := v) (k0 := k0) (n0 := n0) (Ln1 := Ln1) (Φ := Φ) (V1 := V1) (Ψ := Ψ) F
  have ihM := MX11_bring_go (F := F) (v := v) (Ln1 := Ln1) (V1 := V1) F
  unfold mX11_bring mX11_bring_s at h
  unfold rX11_bring rX11_bring_s
  rcases mBT_some h with ⟨E0, L0, V0, z0, h⟩ | ⟨v24, L25, V25, hv24, h⟩
  · have m0 : mP L0 ≤ mP Ln := MX11_refreshed z0
    obtain ⟨rfl, rfl, rfl⟩ := mRA3 h
    refine ⟨(mP Ln - mP L0) / 16, mP Ln - mP L0, by omega, by omega, ?_⟩
    exact LX11_refreshed_E z0 R rfl rfl (by omega) (by omega) (fun S0 R0 F0 => k S0 R0 F0)
  · have mv24 : mP L25 ≤ mP Ln := MX11_refreshed hv24
    have qv24 : mP Ln1 ≤ mP L25 := by
      rcases mIf_some h with ⟨_, h⟩ | ⟨_, h⟩
      · exact ihM _ _ _ h
      · rcases mBT_some h with ⟨_, _, _, z8, h⟩ | ⟨_, _, _, z8, h⟩
        · cases h
          exact MX11_refreshed z8
        · refine Nat.le_trans ?_ (MX11_refreshed z8)
          exact ihM _ _ _ h
    refine ⟨(mP Ln - mP L25) / 16, mP Ln - mP L25, by omega, by omega, ?_⟩
    refine LX11_refreshed_V hv24 R rfl rfl (by omega) (by omega) (fun S25 R25 F25 sv24 => ?_)
    refine mIf h (by rw [show gEntry_origin S25 (α v24) = V25.fI v24 5 from (mg_I (i := v24) R25 (mO3 sv24) rfl 5)]) (fun c9 h => ?_) (fun c9 h => ?_)
    · exact ih _ _ _ _ _ _ R25 sv24 h (by omega) (by omega) (fun S1 R1 F1 => k S1 R1 (F25.tr F1))
    · rcases mBT_some h with ⟨E0, L0, V0, z0, h⟩ | ⟨v30, L31, V31, hv30, h⟩
      · have m0 : mP L0 ≤ mP L25 := MX11_refreshed z0
        obtain ⟨rfl, rfl, rfl⟩ := mRA3 h
        refine ⟨(mP L25 - mP L0) / 16, mP L25 - mP L0, by omega, by omega, ?_⟩
        exact LX11_refreshed_E z0 R25 rfl (by rw [show gEntry_origin S25 (α v24) = V25.fI v24 5 from (mg_I (i := v24) R25 (mO3 sv24) rfl 5)]) (by omega) (by omega) (fun S0 R0 F0 => k S0 R0 (F25.tr F0))
      · have mv30 : mP L31 ≤ mP L25 := MX11_refreshed hv30
        have qv30 : mP Ln1 ≤ mP L31 := by
          exact ihM _ _ _ h
        refine ⟨(mP L25 - mP L31) / 16, mP L25 - mP L31, by omega, by omega, ?_⟩
        refine LX11_refreshed_V hv30 R25 rfl (by rw [show gEntry_origin S25 (α v24) = V25.fI v24 5 from (mg_I (i := v24) R25 (mO3 sv24) rfl 5)]) (by omega) (by omega) (fun S31 R31 F31 sv30 => ?_)
        exact ih _ _ _ _ _ _ R31 sv24 h (by omega) (by omega) (fun S1 R1 F1 => k S1 R1 (F25.tr (F31.tr F1)))
theorem LX11_bring_E {α : Nat → Nat} {F : Nat} {S : wPS} {Ln Ln1 : Nat → Nat} {V V1 : mV} {e : String} {Φ : (Int32 → wPS → Prop)} {Ψ : String → wPS → Prop} {l0Ax : Nat} {l1Ix l1I : Int32} {k0 n0 : Nat} (h : mX11_bring F Ln l1I V = some (.inl e, Ln1, V1)) (R : mRel α S Ln V) (el0A : l0Ax = α 0) (el1I : l1Ix = l1I) (hk : (mP Ln - mP Ln1) / 16 ≤ k0) (hn : mP Ln - mP Ln1 ≤ n0) (k : ∀ S1, mRel α S1 Ln1 V1 → mFr α S S1 → Ψ e S1) : rX11_bring F k0 n0 l0Ax l1Ix S Φ Ψ := LX11_bring h R el0A el1I hk hn k
theorem LX11_bring_V {α : Nat → Nat} {F : Nat} {S : wPS} {Ln Ln1 : Nat → Nat} {V V1 : mV} {a : Int32} {Φ : (Int32 → wPS → Prop)} {Ψ : String → wPS → Prop} {l0Ax : Nat} {l1Ix l1I : Int32} {k0 n0 : Nat} (h : mX11_bring F Ln l1I V = some (.inr a, Ln1, V1)) (R : mRel α S Ln V) (el0A : l0Ax = α 0) (el1I : l1Ix = l1I) (hk : (mP Ln - mP Ln1) / 16 ≤ k0) (hn : mP Ln - mP Ln1 ≤ n0) (k : ∀ S1, mRel α S1 Ln1 V1 → mFr α S S1 → Φ a S1) : rX11_bring F k0 n0 l0Ax l1Ix S Φ Ψ := LX11_bring h R el0A el1I hk hn k
end
