/-! LIFTED BY PROGRAM (lift.py): X11_check, X11_claim, X11_settle, X11_checksum, X11_isSound, L_cell, L_chosen, L_entries. -/
section
def mX11_check (F : Nat) (Ln : Nat → Nat) (l1I : Int32) (l2I : Int32) (V : mV) : Option ((String ⊕ Int32) × (Nat → Nat) × mV) :=
  (mBT (mX11_refreshed F Ln (l1I) V) (fun v1 L2 V2 => (mBW (mX4_judge F L2 v1 2048 (l2I) V2) fun v6 V7 => some ((.inr (v6)), L2, V7))) (fun E0 L0 V0 => some (.inl E0, L0, V0)))
set_option maxHeartbeats 4000000 in
set_option maxRecDepth 100000 in
theorem MX11_check {F : Nat} {Ln Ln1 : Nat → Nat} {V V1 : mV} {v : (String ⊕ Int32)} {l1I : Int32} {l2I : Int32} (h : mX11_check F Ln l1I l2I V = some (v, Ln1, V1)) : mP Ln1 ≤ mP Ln := by
  unfold mX11_check at h
  rcases mBT_some h with ⟨_, _, _, z1, h⟩ | ⟨_, _, _, z1, h⟩
  · cases h
    exact MX11_refreshed z1
  · refine Nat.le_trans ?_ (MX11_refreshed z1)
    obtain ⟨_, _, _, h⟩ := mBW_some h
    cases h
    exact Nat.le_refl _
set_option maxHeartbeats 4000000 in
set_option maxRecDepth 100000 in
theorem LX11_check {α : Nat → Nat} {F : Nat} {S : wPS} {Ln Ln1 : Nat → Nat} {V V1 : mV} {v : (String ⊕ Int32)} {Φ : (Int32 → wPS → Prop)} {Ψ : String → wPS → Prop} {l0Ax : Nat} {l1Ix l1I : Int32} {l2Ix l2I : Int32} {k0 n0 : Nat} (h : mX11_check F Ln l1I l2I V = some (v, Ln1, V1)) (R : mRel α S Ln V) (el0A : l0Ax = α 0) (el1I : l1Ix = l1I) (el2I : l2Ix = l2I) (hk : (mP Ln - mP Ln1) / 16 ≤ k0) (hn : mP Ln - mP Ln1 ≤ n0) (k : (∀ S1, mRel α S1 Ln1 V1 → mFr α S S1 → mOut Φ Ψ v S1)) : rX11_check F k0 n0 l0Ax l1Ix l2Ix S Φ Ψ := by
  have el0A := el0A.symm
  subst el0A
  have el1I := el1I.symm
  subst el1I
  have el2I := el2I.symm
  subst el2I
  unfold mX11_check at h
  unfold rX11_check
  rcases mBT_some h with ⟨E0, L0, V0, z0, h⟩ | ⟨v1, L2, V2, hv1, h⟩
  · have m0 : mP L0 ≤ mP Ln := MX11_refreshed z0
    obtain ⟨rfl, rfl, rfl⟩ := mRA3 h
    refine ⟨(mP Ln - mP L0) / 16, mP Ln - mP L0, by omega, by omega, ?_⟩
    exact LX11_refreshed_E z0 R rfl rfl (by omega) (by omega) (fun S0 R0 F0 => k S0 R0 F0)
  · have mv1 : mP L2 ≤ mP Ln := MX11_refreshed hv1
    have qv1 : mP Ln1 ≤ mP L2 := by
      obtain ⟨_, _, _, h⟩ := mBW_some h
      cases h
      exact Nat.le_refl _
    refine ⟨(mP Ln - mP L2) / 16, mP Ln - mP L2, by omega, by omega, ?_⟩
    refine LX11_refreshed_V hv1 R rfl rfl (by omega) (by omega) (fun S2 R2 F2 sv1 => ?_)
    obtain ⟨v6, V7, hv6, h⟩ := mBW_some h
    refine LX4_judge hv6 R2 sv1 rfl (mg_A (t := 1) R rfl rfl) rfl (mg_A (t := 2048) R2 rfl rfl) rfl (fun S7 R7 F7 => ?_)
    obtain ⟨rfl, rfl, rfl⟩ := mRA3 h
    exact k _ R7 (F2.tr F7)
theorem LX11_check_E {α : Nat → Nat} {F : Nat} {S : wPS} {Ln Ln1 : Nat → Nat} {V V1 : mV} {e : String} {Φ : (Int32 → wPS → Prop)} {Ψ : String → wPS → Prop} {l0Ax : Nat} {l1Ix l1I : Int32} {l2Ix l2I : Int32} {k0 n0 : Nat} (h : mX11_check F Ln l1I l2I V = some (.inl e, Ln1, V1)) (R : mRel α S Ln V) (el0A : l0Ax = α 0) (el1I : l1Ix = l1I) (el2I : l2Ix = l2I) (hk : (mP Ln - mP Ln1) / 16 ≤ k0) (hn : mP Ln - mP Ln1 ≤ n0) (k : ∀ S1, mRel α S1 Ln1 V1 → mFr α S S1 → Ψ e S1) : rX11_check F k0 n0 l0Ax l1Ix l2Ix S Φ Ψ := LX11_check h R el0A el1I el2I hk hn k
theorem LX11_check_V {α : Nat → Nat} {F : Nat} {S : wPS} {Ln Ln1 : Nat → Nat} {V V1 : mV} {a : Int32} {Φ : (Int32 → wPS → Prop)} {Ψ : String → wPS → Prop} {l0Ax : Nat} {l1Ix l1I : Int32} {l2Ix l2I : Int32} {k0 n0 : Nat} (h : mX11_check F Ln l1I l2I V = some (.inr a, Ln1, V1)) (R : mRel α S Ln V) (el0A : l0Ax = α 0) (el1I : l1Ix = l1I) (el2I : l2Ix = l2I) (hk : (mP Ln - mP Ln1) / 16 ≤ k0) (hn : mP Ln - mP Ln1 ≤ n0) (k : ∀ S1, mRel α S1 Ln1 V1 → mFr α S S1 → Φ a S1) : rX11_check F k0 n0 l0Ax l1Ix l2Ix S Φ Ψ := LX11_check h R el0A el1I el2I hk hn k
def mX11_claim (F : Nat) (Ln : Nat → Nat) (l1I : Int32) (l2I : Int32) (l3I : Int32) (V : mV) : Option ((String ⊕ Int32) × (Nat → Nat) × mV) :=
  (if l1I < 0 then (mTh Ln "java/lang/IndexOutOfBoundsException" V) else (if l1I < (V.fI 0 13) then (mBT (mX11_refreshed F Ln (l2I) V) (fun v4 L5 V5 => (mBW (mX4_judge F L5 v4 2048 (l3I) V5) fun v9 V10 => (if v9 = 0 then (mBN (mX11_standsAlready F L5 (l2I) (l3I) V10) fun v15 => (if v15 = 0 then (if (V10.fI 0 15) < (16 : Int32) then (if (V10.fI 0 15) < 0 ∨ 16 ≤ ((V10.fI 0 15)).toNatClampNeg then none else (mBA (mX0_begin F L5 (V10.cl ((V10.fI 0 15)).toNatClampNeg) (l1I) (l2I) (l3I) 2048 V10) fun v24 L25 V25 => (mLt (mF V25 0 15 (((V25.fI 0 15) + (1 : Int32)))) fun V29 => (if l1I < 0 ∨ 6 ≤ (l1I).toNatClampNeg then none else (if (V29.fI (v4 + 2) 1) ≤ (V29.fI 2048 1) then (if l1I < 0 ∨ 6 ≤ (l1I).toNatClampNeg then none else (mLt (mI V29 16 (l1I) (((V29.rI 16 (l1I).toNatClampNeg) + (1 : Int32)))) fun V33 => some ((.inr ((0 : Int32))), L25, V33))) else (if l1I < 0 ∨ 6 ≤ (l1I).toNatClampNeg then none else (mLt (mI V29 16 (l1I) (((V29.rI 16 (l1I).toNatClampNeg) + (3 : Int32)))) fun V35 => some ((.inr ((0 : Int32))), L25, V35)))))))) else (mTh L5 "java/lang/IllegalStateException" V10)) else some ((.inr (v9)), L5, V10))) else some ((.inr (v9)), L5, V10)))) (fun E0 L0 V0 => some (.inl E0, L0, V0))) else (mTh Ln "java/lang/IndexOutOfBoundsException" V)))
set_option maxHeartbeats 4000000 in
set_option maxRecDepth 100000 in
theorem MX11_claim {F : Nat} {Ln Ln1 : Nat → Nat} {V V1 : mV} {v : (String ⊕ Int32)} {l1I : Int32} {l2I : Int32} {l3I : Int32} (h : mX11_claim F Ln l1I l2I l3I V = some (v, Ln1, V1)) : mP Ln1 ≤ mP Ln := by
  unfold mX11_claim at h
  rcases mIf_some h with ⟨_, h⟩ | ⟨_, h⟩
  · obtain ⟨rfl, rfl, rfl, hth⟩ := mTh_some h
    omega
  · rcases mIf_some h with ⟨_, h⟩ | ⟨_, h⟩
    · rcases mBT_some h with ⟨_, _, _, z1, h⟩ | ⟨_, _, _, z1, h⟩
      · cases h
        exact MX11_refreshed z1
      · refine Nat.le_trans ?_ (MX11_refreshed z1)
        obtain ⟨_, _, _, h⟩ := mBW_some h
        rcases mIf_some h with ⟨_, h⟩ | ⟨_, h⟩
        · obtain ⟨_, _, h⟩ := mBN_some h
          rcases mIf_some h with ⟨_, h⟩ | ⟨_, h⟩
          · rcases mIf_some h with ⟨_, h⟩ | ⟨_, h⟩
            · obtain ⟨_, h⟩ := mGd_some h
              obtain ⟨_, _, _, z2, h⟩ := mBA_some h
              refine Nat.le_trans ?_ (MX0_begin z2)
              obtain ⟨_, _, h⟩ := mLt_some h
              obtain ⟨_, h⟩ := mGd_some h
              rcases mIf_some h with ⟨_, h⟩ | ⟨_, h⟩
              · obtain ⟨_, h⟩ := mGd_some h
                obtain ⟨_, _, h⟩ := mLt_some h
                cases h
                exact Nat.le_refl _
              · obtain ⟨_, h⟩ := mGd_some h
                obtain ⟨_, _, h⟩ := mLt_some h
                cases h
                exact Nat.le_refl _
            · obtain ⟨rfl, rfl, rfl, hth⟩ := mTh_some h
              omega
          · cases h
            exact Nat.le_refl _
        · cases h
          exact Nat.le_refl _
    · obtain ⟨rfl, rfl, rfl, hth⟩ := mTh_some h
      omega
set_option maxHeartbeats 4000000 in
set_option maxRecDepth 100000 in
theorem LX11_claim {α : Nat → Nat} {F : Nat} {S : wPS} {Ln Ln1 : Nat → Nat} {V V1 : mV} {v : (String ⊕ Int32)} {Φ : (Int32 → wPS → Prop)} {Ψ : String → wPS → Prop} {l0Ax : Nat} {l1Ix l1I : Int32} {l2Ix l2I : Int32} {l3Ix l3I : Int32} {k0 n0 : Nat} (h : mX11_claim F Ln l1I l2I l3I V = some (v, Ln1, V1)) (R : mRel α S Ln V) (el0A : l0Ax = α 0) (el1I : l1Ix = l1I) (el2I : l2Ix = l2I) (el3I : l3Ix = l3I) (hk : (mP Ln - mP Ln1) / 16 ≤ k0) (hn : mP Ln - mP Ln1 ≤ n0) (k : (∀ S1, mRel α S1 Ln1 V1 → mFr α S S1 → mOut Φ Ψ v S1)) : rX11_claim F k0 n0 l0Ax l1Ix l2Ix l3Ix S Φ Ψ := by
  have el0A := el0A.symm
  subst el0A
  have el1I := el1I.symm
  subst el1I
  have el2I := el2I.symm
  subst el2I
  have el3I := el3I.symm
  subst el3I
  unfold mX11_claim at h
  unfold rX11_claim
  refine mIf h Iff.rfl (fun c3 h => ?_) (fun c3 h => ?_)
  · obtain ⟨rfl, rfl, rfl, hth⟩ := mTh_some h
    exact ⟨by omega, by omega, k _ (mRel_th R) mFr.rf⟩
  · refine mIf h (by rw [show gWitnessworks_personCount S (α 0) = V.fI 0 13 from (mg_I (i := 0) R (by decide) rfl 13)]) (fun c4 h => ?_) (fun c4 h => ?_)
    · rcases mBT_some h with ⟨E0, L0, V0, z0, h⟩ | ⟨v4, L5, V5, hv4, h⟩
      · have m0 : mP L0 ≤ mP Ln := MX11_refreshed z0
        obtain ⟨rfl, rfl, rfl⟩ := mRA3 h
        refine ⟨(mP Ln - mP L0) / 16, mP Ln - mP L0, by omega, by omega, ?_⟩
        exact LX11_refreshed_E z0 R rfl rfl (by omega) (by omega) (fun S0 R0 F0 => k S0 R0 F0)
      · have mv4 : mP L5 ≤ mP Ln := MX11_refreshed hv4
        have qv4 : mP Ln1 ≤ mP L5 := by
          obtain ⟨_, _, _, h⟩ := mBW_some h
          rcases mIf_some h with ⟨_, h⟩ | ⟨_, h⟩
          · obtain ⟨_, _, h⟩ := mBN_some h
            rcases mIf_some h with ⟨_, h⟩ | ⟨_, h⟩
            · rcases mIf_some h with ⟨_, h⟩ | ⟨_, h⟩
              · obtain ⟨_, h⟩ := mGd_some h
                obtain ⟨_, _, _, z5, h⟩ := mBA_some h
                refine Nat.le_trans ?_ (MX0_begin z5)
                obtain ⟨_, _, h⟩ := mLt_some h
                obtain ⟨_, h⟩ := mGd_some h
                rcases mIf_some h with ⟨_, h⟩ | ⟨_, h⟩
                · obtain ⟨_, h⟩ := mGd_some h
                  obtain ⟨_, _, h⟩ := mLt_some h
                  cases h
                  exact Nat.le_refl _
                · obtain ⟨_, h⟩ := mGd_some h
                  obtain ⟨_, _, h⟩ := mLt_some h
                  cases h
                  exact Nat.le_refl _
              · obtain ⟨rfl, rfl, rfl, hth⟩ := mTh_some h
                omega
            · cases h
              exact Nat.le_refl _
          · cases h
            exact Nat.le_refl _
        refine ⟨(mP Ln - mP L5) / 16, mP Ln - mP L5, by omega, by omega, ?_⟩
        refine LX11_refreshed_V hv4 R rfl rfl (by omega) (by omega) (fun S5 R5 F5 sv4 => ?_)
        obtain ⟨v9, V10, hv9, h⟩ := mBW_some h
        refine LX4_judge hv9 R5 sv4 rfl (mg_A (t := 1) R5 rfl rfl) rfl (mg_A (t := 2048) R5 rfl rfl) rfl (fun S10 R10 F10 => ?_)
        refine mIf h Iff.rfl (fun c6 h => ?_) (fun c6 h => ?_)
        · obtain ⟨v15, hv15, h⟩ := mBN_some h
          refine LX11_standsAlready hv15 R10 rfl rfl rfl ?_
          refine mIf h Iff.rfl (fun c7 h => ?_) (fun c7 h => ?_)
          · refine mIf h (by rw [show gWitnessworks_claimCount S10 (α 0) = V10.fI 0 15 from (mg_I (i := 0) R10 (by decide) rfl 15)]) (fun c8 h => ?_) (fun c8 h => ?_)
            · refine mGd h (by rw [show S10.len (wkAd (gWitnessworks_claims S10 (α 0))) = 16 from (mg_len (i := 17) R10 (mAr (by decide)) (mg_A (t := 17) R10 rfl rfl)), show gWitnessworks_claimCount S10 (α 0) = V10.fI 0 15 from (mg_I (i := 0) R10 (by decide) rfl 15)]) (fun c9 h => ?_)
              obtain ⟨v24, L25, V25, hv24, h⟩ := mBA_some h
              have mv24 : mP L25 ≤ mP L5 := MX0_begin hv24
              have qv24 : mP Ln1 ≤ mP L25 := by
                obtain ⟨_, _, h⟩ := mLt_some h
                obtain ⟨_, h⟩ := mGd_some h
                rcases mIf_some h with ⟨_, h⟩ | ⟨_, h⟩
                · obtain ⟨_, h⟩ := mGd_some h
                  obtain ⟨_, _, h⟩ := mLt_some h
                  cases h
                  exact Nat.le_refl _
                · obtain ⟨_, h⟩ := mGd_some h
                  obtain ⟨_, _, h⟩ := mLt_some h
                  cases h
                  exact Nat.le_refl _
              refine ⟨(mP L5 - mP L25) / 16, mP L5 - mP L25, by omega, by omega, ?_⟩
              refine LX0_begin hv24 R10 (mg_CLk R10 (Nat.lt_of_not_le (fun z => c9 (Or.inr z)))) rfl (mg_CL R10 (Nat.lt_of_not_le (fun z => c9 (Or.inr z))) (mg_A (t := 17) R10 rfl rfl) (by rw [show gWitnessworks_claimCount S10 (α 0) = V10.fI 0 15 from (mg_I (i := 0) R10 (by decide) rfl 15)])) rfl rfl rfl (mg_A (t := 2048) R10 rfl rfl) (by omega) (by omega) (fun S25 R25 F25 => ?_)
              obtain ⟨V29, eV29, h⟩ := mLt_some h
              refine mU_F eV29 R25 (by decide) rfl (by rw [show gWitnessworks_claimCount S25 (α 0) = V25.fI 0 15 from (mg_I (i := 0) R25 (by decide) rfl 15)]) (fun S29 R29 F29 => ?_)
              refine mGd h (by rw [show S29.len (wkAd (gWitnessworks_earned S29 (α 0))) = 6 from (mg_len (i := 16) R29 (mA13 rfl) (mg_A (t := 16) R29 rfl rfl))]) (fun c10 h => ?_)
              refine mIf h (by rw [show gRow_count S29 (wkAd (gWitnessworks_typed S29 (α 0))) = V29.fI 2048 1 from (mg_I (i := 2048) R29 (by decide) (mg_A (t := 2048) R29 rfl rfl) 1), show gRow_count S29 (wkAd (gEntry_row S29 (α v4))) = V29.fI (v4 + 2) 1 from (mg_I (i := (v4 + 2)) R29 (mO9 (mKe2 sv4)) (mg_A (t := (v4 + 2)) R29 (mRe sv4 rfl) rfl) 1)]) (fun c11 h => ?_) (fun c11 h => ?_)
              · refine mGd h (by rw [show S29.len (wkAd (gWitnessworks_earned S29 (α 0))) = 6 from (mg_len (i := 16) R29 (mA13 rfl) (mg_A (t := 16) R29 rfl rfl))]) (fun c12 h => ?_)
                obtain ⟨V33, eV33, h⟩ := mLt_some h
                refine mU_I eV33 R29 (mA13 rfl) (mg_A (t := 16) R29 rfl rfl) rfl (by rw [show S29.rI (wkAd (gWitnessworks_earned S29 (α 0))) (l1I).toNatClampNeg = V29.rI 16 (l1I).toNatClampNeg from (mg_rI (i := 16) R29 (mA13 rfl) (mg_A (t := 16) R29 rfl rfl) rfl)]) (fun S33 R33 F33 => ?_)
                obtain ⟨rfl, rfl, rfl⟩ := mRA3 h
                exact k _ R33 (F5.tr (F10.tr (F25.tr (F29.tr F33))))
              · refine mGd h (by rw [show S29.len (wkAd (gWitnessworks_earned S29 (α 0))) = 6 from (mg_len (i := 16) R29 (mA13 rfl) (mg_A (t := 16) R29 rfl rfl))]) (fun c13 h => ?_)
                obtain ⟨V35, eV35, h⟩ := mLt_some h
                refine mU_I eV35 R29 (mA13 rfl) (mg_A (t := 16) R29 rfl rfl) rfl (by rw [show S29.rI (wkAd (gWitnessworks_earned S29 (α 0))) (l1I).toNatClampNeg = V29.rI 16 (l1I).toNatClampNeg from (mg_rI (i := 16) R29 (mA13 rfl) (mg_A (t := 16) R29 rfl rfl) rfl)]) (fun S35 R35 F35 => ?_)
                obtain ⟨rfl, rfl, rfl⟩ := mRA3 h
                exact k _ R35 (F5.tr (F10.tr (F25.tr (F29.tr F35))))
            · obtain ⟨rfl, rfl, rfl, hth⟩ := mTh_some h
              exact ⟨by omega, by omega, k _ (mRel_th R10) (F5.tr F10)⟩
          · obtain ⟨rfl, rfl, rfl⟩ := mRA3 h
            exact k _ R10 (F5.tr F10)
        · obtain ⟨rfl, rfl, rfl⟩ := mRA3 h
          exact k _ R10 (F5.tr F10)
    · obtain ⟨rfl, rfl, rfl, hth⟩ := mTh_some h
      exact ⟨by omega, by omega, k _ (mRel_th R) mFr.rf⟩
theorem LX11_claim_E {α : Nat → Nat} {F : Nat} {S : wPS} {Ln Ln1 : Nat → Nat} {V V1 : mV} {e : String} {Φ : (Int32 → wPS → Prop)} {Ψ : String → wPS → Prop} {l0Ax : Nat} {l1Ix l1I : Int32} {l2Ix l2I : Int32} {l3Ix l3I : Int32} {k0 n0 : Nat} (h : mX11_claim F Ln l1I l2I l3I V = some (.inl e, Ln1, V1)) (R : mRel α S Ln V) (el0A : l0Ax = α 0) (el1I : l1Ix = l1I) (el2I : l2Ix = l2I) (el3I : l3Ix = l3I) (hk : (mP Ln - mP Ln1) / 16 ≤ k0) (hn : mP Ln - mP Ln1 ≤ n0) (k : ∀ S1, mRel α S1 Ln1 V1 → mFr α S S1 → Ψ e S1) : rX11_claim F k0 n0 l0Ax l1Ix l2Ix l3Ix S Φ Ψ := LX11_claim h R el0A el1I el2I el3I hk hn k
theorem LX11_claim_V {α : Nat → Nat} {F : Nat} {S : wPS} {Ln Ln1 : Nat → Nat} {V V1 : mV} {a : Int32} {Φ : (Int32 → wPS → Prop)} {Ψ : String → wPS → Prop} {l0Ax : Nat} {l1Ix l1I : Int32} {l2Ix l2I : Int32} {l3Ix l3I : Int32} {k0 n0 : Nat} (h : mX11_claim F Ln l1I l2I l3I V = some (.inr a, Ln1, V1)) (R : mRel α S Ln V) (el0A : l0Ax = α 0) (el1I : l1Ix = l1I) (el2I : l2Ix = l2I) (el3I : l3Ix = l3I) (hk : (mP Ln - mP Ln1) / 16 ≤ k0) (hn : mP Ln - mP Ln1 ≤ n0) (k : ∀ S1, mRel α S1 Ln1 V1 → mFr α S S1 → Φ a S1) : rX11_claim F k0 n0 l0Ax l1Ix l2Ix l3Ix S Φ Ψ := LX11_claim h R el0A el1I el2I el3I hk hn k
def mX11_settle_b0 (F : Nat) (rec : Nat → (Nat → Nat) → Int32 → Int32 → mV → Option ((String ⊕ Int32) × (Nat → Nat) × mV)) (Ln : Nat → Nat) (l1I : Int32) (l2I : Int32) (V : mV) : Option ((String ⊕ Int32) × (Nat → Nat) × mV) :=
  (if (V.fI 0 2) ≤ l2I then some ((.inr (((V.fI 0 17) - l1I))), Ln, V) else (mBT (mX11_refreshed F Ln (l2I) V) (fun v2 L3 V3 => (mBA (mX11_settleEntry F L3 (l2I) v2 V3) fun v7 L8 V8 => (mBA (mX11_settleClaims F L8 (l2I) V8) fun v12 L13 V13 => (mLt (l2I + (1 : Int32)) fun x17 => (rec 0 L13 (l1I) (x17) V13))))) (fun E0 L0 V0 => some (.inl E0, L0, V0))))
def mX11_settle_go (F : Nat) : Nat → Nat → (Nat → Nat) → Int32 → Int32 → mV → Option ((String ⊕ Int32) × (Nat → Nat) × mV)
  | 0, _, _, _, _, _ => none
  | k' + 1, lab, Ln, l1I, l2I, V => if lab = 0 then mX11_settle_b0 F (mX11_settle_go F k') Ln l1I l2I V else none
def mX11_settle_s (F : Nat) (rec : Nat → (Nat → Nat) → Int32 → Int32 → mV → Option ((String ⊕ Int32) × (Nat → Nat) × mV)) (Ln : Nat → Nat) (V : mV) : Option ((String ⊕ Int32) × (Nat → Nat) × mV) :=
  (mLt (V.fI 0 17) fun x18 => (mLt (mF V 0 18 (((V.fI 0 18) + (1 : Int32)))) fun V19 => (rec 0 Ln (x18) ((0 : Int32)) V19)))
def mX11_settle (F : Nat) (Ln : Nat → Nat) (V : mV) : Option ((String ⊕ Int32) × (Nat → Nat) × mV) := mX11_settle_s F (mX11_settle_go F F) Ln V
set_option maxHeartbeats 4000000 in
set_option maxRecDepth 100000 in
theorem MX11_settle_go {F : Nat} {v : (String ⊕ Int32)} {Ln1 : Nat → Nat} {V1 : mV} : ∀ k' : Nat, (∀ (l1I : Int32) (l2I : Int32) (Ln : Nat → Nat) (V : mV), mX11_settle_go F k' 0 Ln l1I l2I V = some (v, Ln1, V1) → mP Ln1 ≤ mP Ln) := by
  intro k'
  induction k' with
  | zero => exact (fun _ _ _ _ h => by cases h)
  | succ k' ihM =>
    skip
    intro l1I l2I Ln V h
    rw [mX11_settle_go, if_pos rfl] at h
    unfold mX11_settle_b0 at h
    rcases mIf_some h with ⟨_, h⟩ | ⟨_, h⟩
    · cases h
      exact Nat.le_refl _
    · rcases mBT_some h with ⟨_, _, _, z1, h⟩ | ⟨_, _, _, z1, h⟩
      · cases h
        exact MX11_refreshed z1
      · refine Nat.le_trans ?_ (MX11_refreshed z1)
        obtain ⟨_, _, _, z2, h⟩ := mBA_some h
        refine Nat.le_trans ?_ (MX11_settleEntry z2)
        obtain ⟨_, _, _, z3, h⟩ := mBA_some h
        refine Nat.le_trans ?_ (MX11_settleClaims z3)
        obtain ⟨_, _, h⟩ := mLt_some h
        exact ihM _ _ _ _ h
set_option maxHeartbeats 4000000 in
set_option maxRecDepth 100000 in
theorem MX11_settle {F : Nat} {Ln Ln1 : Nat → Nat} {V V1 : mV} {v : (String ⊕ Int32)} (h : mX11_settle F Ln V = some (v, Ln1, V1)) : mP Ln1 ≤ mP Ln := by
  have ihM := MX11_settle_go (F := F) (v := v) (Ln1 := Ln1) (V1 := V1) F
  unfold mX11_settle mX11_settle_s at h
  obtain ⟨_, _, h⟩ := mLt_some h
  obtain ⟨_, _, h⟩ := mLt_some h
  exact ihM _ _ _ _ h
set_option maxHeartbeats 4000000 in
set_option maxRecDepth 100000 in
theorem LX11_settle_go {α : Nat → Nat} {k0 n0 : Nat} {F : Nat} {v : (String ⊕ Int32)} {Ln1 : Nat → Nat} {V1 : mV} {Φ : (Int32 → wPS → Prop)} {Ψ : String → wPS → Prop} : ∀ k' : Nat, (∀ (l1I : Int32) (l2I : Int32) (S : wPS) (V : mV) (Ln : Nat → Nat) (c s : Nat), mRel α S Ln V → mX11_settle_go F k' 0 Ln l1I l2I V = some (v, Ln1, V1) → c + (mP Ln - mP Ln1) / 16 ≤ k0 → s + (mP Ln - mP Ln1) ≤ n0 → (∀ S1, mRel α S1 Ln1 V1 → mFr α S S1 → mOut Φ Ψ v S1) → rX11_settle_go F k0 n0 k' 0 c s (α 0) l1I l2I S Φ Ψ) := by
  intro k'
  induction k' with
  | zero => exact (fun _ _ _ _ _ _ _ _ h _ _ _ => by cases h)
  | succ k' ih =>
    have ihM := MX11_settle_go (F := F) (v := v) (Ln1 := Ln1) (V1 := V1) k'
    intro l1I l2I S V Ln c s R h hk hn k
    rw [mX11_settle_go, if_pos rfl] at h
    rw [rX11_settle_go, if_pos rfl]
    unfold mX11_settle_b0 at h
    unfold rX11_settle_b0
    refine mIf h (by rw [show gWitnessworks_entryCount S (α 0) = V.fI 0 2 from (mg_I (i := 0) R (by decide) rfl 2)]) (fun c4 h => ?_) (fun c4 h => ?_)
    · obtain ⟨rfl, rfl, rfl⟩ := mRA3 h
      rw [show gWitnessworks_errorCount S (α 0) = V.fI 0 17 from (mg_I (i := 0) R (by decide) rfl 17)]
      exact k _ R mFr.rf
    · rcases mBT_some h with ⟨E0, L0, V0, z0, h⟩ | ⟨v2, L3, V3, hv2, h⟩
      · have m0 : mP L0 ≤ mP Ln := MX11_refreshed z0
        obtain ⟨rfl, rfl, rfl⟩ := mRA3 h
        refine ⟨(mP Ln - mP L0) / 16, mP Ln - mP L0, by omega, by omega, ?_⟩
        exact LX11_refreshed_E z0 R rfl rfl (by omega) (by omega) (fun S0 R0 F0 => k S0 R0 F0)
      · have mv2 : mP L3 ≤ mP Ln := MX11_refreshed hv2
        have qv2 : mP Ln1 ≤ mP L3 := by
          obtain ⟨_, _, _, z5, h⟩ := mBA_some h
          refine Nat.le_trans ?_ (MX11_settleEntry z5)
          obtain ⟨_, _, _, z6, h⟩ := mBA_some h
          refine Nat.le_trans ?_ (MX11_settleClaims z6)
          obtain ⟨_, _, h⟩ := mLt_some h
          exact ihM _ _ _ _ h
        refine ⟨(mP Ln - mP L3) / 16, mP Ln - mP L3, by omega, by omega, ?_⟩
        refine LX11_refreshed_V hv2 R rfl rfl (by omega) (by omega) (fun S3 R3 F3 sv2 => ?_)
        obtain ⟨v7, L8, V8, hv7, h⟩ := mBA_some h
        have mv7 : mP L8 ≤ mP L3 := MX11_settleEntry hv7
        have qv7 : mP Ln1 ≤ mP L8 := by
          obtain ⟨_, _, _, z7, h⟩ := mBA_some h
          refine Nat.le_trans ?_ (MX11_settleClaims z7)
          obtain ⟨_, _, h⟩ := mLt_some h
          exact ihM _ _ _ _ h
        refine ⟨(mP L3 - mP L8) / 16, mP L3 - mP L8, by omega, by omega, ?_⟩
        refine LX11_settleEntry hv7 R3 sv2 rfl rfl rfl (by omega) (by omega) (fun S8 R8 F8 => ?_)
        obtain ⟨v12, L13, V13, hv12, h⟩ := mBA_some h
        have mv12 : mP L13 ≤ mP L8 := MX11_settleClaims hv12
        have qv12 : mP Ln1 ≤ mP L13 := by
          obtain ⟨_, _, h⟩ := mLt_some h
          exact ihM _ _ _ _ h
        refine ⟨(mP L8 - mP L13) / 16, mP L8 - mP L13, by omega, by omega, ?_⟩
        refine LX11_settleClaims hv12 R8 rfl rfl (by omega) (by omega) (fun S13 R13 F13 => ?_)
        refine mLet h rfl (fun x17 ex17 h => ?_)
        exact ih _ _ _ _ _ _ _ R13 h (by omega) (by omega) (fun S1 R1 F1 => k S1 R1 (F3.tr (F8.tr (F13.tr F1))))
set_option maxHeartbeats 4000000 in
set_option maxRecDepth 100000 in
theorem LX11_settle {α : Nat → Nat} {F : Nat} {S : wPS} {Ln Ln1 : Nat → Nat} {V V1 : mV} {v : (String ⊕ Int32)} {Φ : (Int32 → wPS → Prop)} {Ψ : String → wPS → Prop} {l0Ax : Nat} {k0 n0 : Nat} (h : mX11_settle F Ln V = some (v, Ln1, V1)) (R : mRel α S Ln V) (el0A : l0Ax = α 0) (hk : (mP Ln - mP Ln1) / 16 ≤ k0) (hn : mP Ln - mP Ln1 ≤ n0) (k : (∀ S1, mRel α S1 Ln1 V1 → mFr α S S1 → mOut Φ Ψ v S1)) : rX11_settle F k0 n0 l0Ax S Φ Ψ := by
  have el0A := el0A.symm
  subst el0A
  have ih := LX11_settle_go  (α := α) (F := F) (v := v) (k0 := k0) (n0 := n0) (Ln1 := Ln1) (Φ := Φ) (V1 := V1) (Ψ := Ψ) F
  have ihM := MX11_settle_go (F := F) (v := v) (Ln1 := Ln1) (V1 := V1) F
  unfold mX11_settle mX11_settle_s at h
  unfold rX11_settle rX11_settle_s
  refine mLet h (by rw [show gWitnessworks_errorCount S (α 0) = V.fI 0 17 from (mg_I (i := 0) R (by decide) rfl 17)]) (fun x18 ex18 h => ?_)
  obtain ⟨V19, eV19, h⟩ := mLt_some h
  refine mU_F eV19 R (by decide) rfl (by rw [show gWitnessworks_settlings S (α 0) = V.fI 0 18 from (mg_I (i := 0) R (by decide) rfl 18)]) (fun S19 R19 F19 => ?_)
  exact ih _ _ _ _ _ _ _ R19 h (by omega) (by omega) (fun S1 R1 F1 => k S1 R1 (F19.tr F1))
theorem LX11_settle_E {α : Nat → Nat} {F : Nat} {S : wPS} {Ln Ln1 : Nat → Nat} {V V1 : mV} {e : String} {Φ : (Int32 → wPS → Prop)} {Ψ : String → wPS → Prop} {l0Ax : Nat} {k0 n0 : Nat} (h : mX11_settle F Ln V = some (.inl e, Ln1, V1)) (R : mRel α S Ln V) (el0A : l0Ax = α 0) (hk : (mP Ln - mP Ln1) / 16 ≤ k0) (hn : mP Ln - mP Ln1 ≤ n0) (k : ∀ S1, mRel α S1 Ln1 V1 → mFr α S S1 → Ψ e S1) : rX11_settle F k0 n0 l0Ax S Φ Ψ := LX11_settle h R el0A hk hn k
theorem LX11_settle_V {α : Nat → Nat} {F : Nat} {S : wPS} {Ln Ln1 : Nat → Nat} {V V1 : mV} {a : Int32} {Φ : (Int32 → wPS → Prop)} {Ψ : String → wPS → Prop} {l0Ax : Nat} {k0 n0 : Nat} (h : mX11_settle F Ln V = some (.inr a, Ln1, V1)) (R : mRel α S Ln V) (el0A : l0Ax = α 0) (hk : (mP Ln - mP Ln1) / 16 ≤ k0) (hn : mP Ln - mP Ln1 ≤ n0) (k : ∀ S1, mRel α S1 Ln1 V1 → mFr α S S1 → Φ a S1) : rX11_settle F k0 n0 l0Ax S Φ Ψ := LX11_settle h R el0A hk hn k
def mX11_checksum_b0 (F : Nat) (rec : Nat → (Nat → Nat) → Int64 → Int32 → mV → Option ((String ⊕ Int64) × (Nat → Nat) × mV)) (Ln : Nat → Nat) (l1J : Int64) (l3I : Int32) (V : mV) : Option ((String ⊕ Int64) × (Nat → Nat) × mV) :=
  (if (V.fI 0 2) ≤ l3I then some ((.inr (l1J)), Ln, V) else (mBT (mX11_refreshed F Ln (l3I) V) (fun v2 L3 V3 => (mLt (((31 : Int64) * l1J) + (Int32.toInt64 (V3.fI v2 8))) fun x7 => (mLt (((31 : Int64) * x7) + (Int32.toInt64 (V3.fI v2 12))) fun x8 => (mLt (((31 : Int64) * x8) + (Int32.toInt64 (V3.fI v2 11))) fun x9 => (mBN (mX9_total F L3 (v2 + 2) V3) fun v10 => (mLt (((31 : Int64) * x9) + v10) fun x15 => (mLt (l3I + (1 : Int32)) fun x16 => (rec 0 L3 (x15) (x16) V3)))))))) (fun E0 L0 V0 => some (.inl E0, L0, V0))))
def mX11_checksum_go (F : Nat) : Nat → Nat → (Nat → Nat) → Int64 → Int32 → mV → Option ((String ⊕ Int64) × (Nat → Nat) × mV)
  | 0, _, _, _, _, _ => none
  | k' + 1, lab, Ln, l1J, l3I, V => if lab = 0 then mX11_checksum_b0 F (mX11_checksum_go F k') Ln l1J l3I V else none
def mX11_checksum_s (F : Nat) (rec : Nat → (Nat → Nat) → Int64 → Int32 → mV → Option ((String ⊕ Int64) × (Nat → Nat) × mV)) (Ln : Nat → Nat) (V : mV) : Option ((String ⊕ Int64) × (Nat → Nat) × mV) :=
  (rec 0 Ln ((7 : Int64)) ((0 : Int32)) V)
def mX11_checksum (F : Nat) (Ln : Nat → Nat) (V : mV) : Option ((String ⊕ Int64) × (Nat → Nat) × mV) := mX11_checksum_s F (mX11_checksum_go F F) Ln V
set_option maxHeartbeats 4000000 in
set_option maxRecDepth 100000 in
theorem MX11_checksum_go {F : Nat} {v : (String ⊕ Int64)} {Ln1 : Nat → Nat} {V1 : mV} : ∀ k' : Nat, (∀ (l1J : Int64) (l3I : Int32) (Ln : Nat → Nat) (V : mV), mX11_checksum_go F k' 0 Ln l1J l3I V = some (v, Ln1, V1) → mP Ln1 ≤ mP Ln) := by
  intro k'
  induction k' with
  | zero => exact (fun _ _ _ _ h => by cases h)
  | succ k' ihM =>
    skip
    intro l1J l3I Ln V h
    rw [mX11_checksum_go, if_pos rfl] at h
    unfold mX11_checksum_b0 at h
    rcases mIf_some h with ⟨_, h⟩ | ⟨_, h⟩
    · cases h
      exact Nat.le_refl _
    · rcases mBT_some h with ⟨_, _, _, z1, h⟩ | ⟨_, _, _, z1, h⟩
      · cases h
        exact MX11_refreshed z1
      · refine Nat.le_trans ?_ (MX11_refreshed z1)
        obtain ⟨_, _, h⟩ := mLt_some h
        obtain ⟨_, _, h⟩ := mLt_some h
        obtain ⟨_, _, h⟩ := mLt_some h
        obtain ⟨_, _, h⟩ := mBN_some h
        obtain ⟨_, _, h⟩ := mLt_some h
        obtain ⟨_, _, h⟩ := mLt_some h
        exact ihM _ _ _ _ h
set_option maxHeartbeats 4000000 in
set_option maxRecDepth 100000 in
theorem MX11_checksum {F : Nat} {Ln Ln1 : Nat → Nat} {V V1 : mV} {v : (String ⊕ Int64)} (h : mX11_checksum F Ln V = some (v, Ln1, V1)) : mP Ln1 ≤ mP Ln := by
  have ihM := MX11_checksum_go (F := F) (v := v) (Ln1 := Ln1) (V1 := V1) F
  unfold mX11_checksum mX11_checksum_s at h
  exact ihM _ _ _ _ h
set_option maxHeartbeats 4000000 in
set_option maxRecDepth 100000 in
theorem LX11_checksum_go {α : Nat → Nat} {k0 n0 : Nat} {F : Nat} {v : (String ⊕ Int64)} {Ln1 : Nat → Nat} {V1 : mV} {Φ : (Int64 → wPS → Prop)} {Ψ : String → wPS → Prop} : ∀ k' : Nat, (∀ (l1J : Int64) (l3I : Int32) (S : wPS) (V : mV) (Ln : Nat → Nat) (c s : Nat), mRel α S Ln V → mX11_checksum_go F k' 0 Ln l1J l3I V = some (v, Ln1, V1) → c + (mP Ln - mP Ln1) / 16 ≤ k0 → s + (mP Ln - mP Ln1) ≤ n0 → (∀ S1, mRel α S1 Ln1 V1 → mFr α S S1 → mOut Φ Ψ v S1) → rX11_checksum_go F k0 n0 k' 0 c s (α 0) l1J l3I S Φ Ψ) := by
  intro k'
  induction k' with
  | zero => exact (fun _ _ _ _ _ _ _ _ h _ _ _ => by cases h)
  | succ k' ih =>
    have ihM := MX11_checksum_go (F := F) (v := v) (Ln1 := Ln1) (V1 := V1) k'
    intro l1J l3I S V Ln c s R h hk hn k
    rw [mX11_checksum_go, if_pos rfl] at h
    rw [rX11_checksum_go, if_pos rfl]
    unfold mX11_checksum_b0 at h
    unfold rX11_checksum_b0
    refine mIf h (by rw [show gWitnessworks_entryCount S (α 0) = V.fI 0 2 from (mg_I (i := 0) R (by decide) rfl 2)]) (fun c2 h => ?_) (fun c2 h => ?_)
    · obtain ⟨rfl, rfl, rfl⟩ := mRA3 h
      exact k _ R mFr.rf
    · rcases mBT_some h with ⟨E0, L0, V0, z0, h⟩ | ⟨v2, L3, V3, hv2, h⟩
      · have m0 : mP L0 ≤ mP Ln := MX11_refreshed z0
        obtain ⟨rfl, rfl, rfl⟩ := mRA3 h
        refine ⟨(mP Ln - mP L0) / 16, mP Ln - mP L0, by omega, by omega, ?_⟩
        exact LX11_refreshed_E z0 R rfl rfl (by omega) (by omega) (fun S0 R0 F0 => k S0 R0 F0)
      · have mv2 : mP L3 ≤ mP Ln := MX11_refreshed hv2
        have qv2 : mP Ln1 ≤ mP L3 := by
          obtain ⟨_, _, h⟩ := mLt_some h
          obtain ⟨_, _, h⟩ := mLt_some h
          obtain ⟨_, _, h⟩ := mLt_some h
          obtain ⟨_, _, h⟩ := mBN_some h
          obtain ⟨_, _, h⟩ := mLt_some h
          obtain ⟨_, _, h⟩ := mLt_some h
          exact ihM _ _ _ _ h
        refine ⟨(mP Ln - mP L3) / 16, mP Ln - mP L3, by omega, by omega, ?_⟩
        refine LX11_refreshed_V hv2 R rfl rfl (by omega) (by omega) (fun S3 R3 F3 sv2 => ?_)
        refine mLet h (by rw [show gEntry_boundNow S3 (α v2) = V3.fI v2 8 from (mg_I (i := v2) R3 (mO3 sv2) rfl 8)]) (fun x7 ex7 h => ?_)
        refine mLet h (by rw [show gEntry_told S3 (α v2) = V3.fI v2 12 from (mg_I (i := v2) R3 (mO3 sv2) rfl 12)]) (fun x8 ex8 h => ?_)
        refine mLet h (by rw [show gEntry_reply S3 (α v2) = V3.fI v2 11 from (mg_I (i := v2) R3 (mO3 sv2) rfl 11)]) (fun x9 ex9 h => ?_)
        obtain ⟨v10, hv10, h⟩ := mBN_some h
        refine LX9_total hv10 R3 (mKe2 sv2) (mg_A (t := (v2 + 2)) R3 (mRe sv2 rfl) rfl) ?_
        refine mLet h rfl (fun x15 ex15 h => ?_)
        refine mLet h rfl (fun x16 ex16 h => ?_)
        exact ih _ _ _ _ _ _ _ R3 h (by omega) (by omega) (fun S1 R1 F1 => k S1 R1 (F3.tr F1))
set_option maxHeartbeats 4000000 in
set_option maxRecDepth 100000 in
theorem LX11_checksum {α : Nat → Nat} {F : Nat} {S : wPS} {Ln Ln1 : Nat → Nat} {V V1 : mV} {v : (String ⊕ Int64)} {Φ : (Int64 → wPS → Prop)} {Ψ : String → wPS → Prop} {l0Ax : Nat} {k0 n0 : Nat} (h : mX11_checksum F Ln V = some (v, Ln1, V1)) (R : mRel α S Ln V) (el0A : l0Ax = α 0) (hk : (mP Ln - mP Ln1) / 16 ≤ k0) (hn : mP Ln - mP Ln1 ≤ n0) (k : (∀ S1, mRel α S1 Ln1 V1 → mFr α S S1 → mOut Φ Ψ v S1)) : rX11_checksum F k0 n0 l0Ax S Φ Ψ := by
  have el0A := el0A.symm
  subst el0A
  have ih := LX11_checksum_go  (α := α) (F := F) (v := v) (k0 := k0) (n0 := n0) (Ln1 := Ln1) (Φ := Φ) (V1 := V1) (Ψ := Ψ) F
  have ihM := MX11_checksum_go (F := F) (v := v) (Ln1 := Ln1) (V1 := V1) F
  unfold mX11_checksum mX11_checksum_s at h
  unfold rX11_checksum rX11_checksum_s
  exact ih _ _ _ _ _ _ _ R h (by omega) (by omega) (fun S1 R1 F1 => k S1 R1 F1)
theorem LX11_checksum_E {α : Nat → Nat} {F : Nat} {S : wPS} {Ln Ln1 : Nat → Nat} {V V1 : mV} {e : String} {Φ : (Int64 → wPS → Prop)} {Ψ : String → wPS → Prop} {l0Ax : Nat} {k0 n0 : Nat} (h : mX11_checksum F Ln V = some (.inl e, Ln1, V1)) (R : mRel α S Ln V) (el0A : l0Ax = α 0) (hk : (mP Ln - mP Ln1) / 16 ≤ k0) (hn : mP Ln - mP Ln1 ≤ n0) (k : ∀ S1, mRel α S1 Ln1 V1 → mFr α S S1 → Ψ e S1) : rX11_checksum F k0 n0 l0Ax S Φ Ψ := LX11_checksum h R el0A hk hn k
theorem LX11_checksum_V {α : Nat → Nat} {F : Nat} {S : wPS} {Ln Ln1 : Nat → Nat} {V V1 : mV} {a : Int64} {Φ : (Int64 → wPS → Prop)} {Ψ : String → wPS → Prop} {l0Ax : Nat} {k0 n0 : Nat} (h : mX11_checksum F Ln V = some (.inr a, Ln1, V1)) (R : mRel α S Ln V) (el0A : l0Ax = α 0) (hk : (mP Ln - mP Ln1) / 16 ≤ k0) (hn : mP Ln - mP Ln1 ≤ n0) (k : ∀ S1, mRel α S1 Ln1 V1 → mFr α S S1 → Φ a S1) : rX11_checksum F k0 n0 l0Ax S Φ Ψ := LX11_checksum h R el0A hk hn k
def mX11_isSound_b0 (F : Nat) (rec : Nat → (Nat → Nat) → Int32 → mV → Option ((String ⊕ Int32) × (Nat → Nat) × mV)) (Ln : Nat → Nat) (l1I : Int32) (V : mV) : Option ((String ⊕ Int32) × (Nat → Nat) × mV) :=
  (if (V.fI 0 2) ≤ l1I then (rec 1 Ln ((0 : Int32)) V) else (mBT (mX11_refreshed F Ln (l1I) V) (fun v2 L3 V3 => (mLt (l1I + (1 : Int32)) fun x7 => (rec 0 L3 (x7) V3))) (fun E0 L0 V0 => some (.inl E0, L0, V0))))
def mX11_isSound_b1 (F : Nat) (rec : Nat → (Nat → Nat) → Int32 → mV → Option ((String ⊕ Int32) × (Nat → Nat) × mV)) (Ln : Nat → Nat) (l1I : Int32) (V : mV) : Option ((String ⊕ Int32) × (Nat → Nat) × mV) :=
  (if (V.fI 0 2) ≤ l1I then (rec 2 Ln ((0 : Int32)) V) else (if l1I < 0 ∨ 12 ≤ (l1I).toNatClampNeg then none else (mBW (mX11_isSoundEntry F Ln (256 + 8 * (l1I).toNatClampNeg) V) fun v11 V12 => (if v11 = 0 then some ((.inr ((0 : Int32))), Ln, V12) else (mLt (l1I + (1 : Int32)) fun x17 => (rec 1 Ln (x17) V12))))))
def mX11_isSound_b2 (F : Nat) (rec : Nat → (Nat → Nat) → Int32 → mV → Option ((String ⊕ Int32) × (Nat → Nat) × mV)) (Ln : Nat → Nat) (l1I : Int32) (V : mV) : Option ((String ⊕ Int32) × (Nat → Nat) × mV) :=
  (if (V.fI 0 15) ≤ l1I then some ((.inr ((1 : Int32))), Ln, V) else (if l1I < 0 ∨ 16 ≤ (l1I).toNatClampNeg then none else (mBW (mX11_isUnsoundClaim F Ln (V.cl (l1I).toNatClampNeg) V) fun v21 V22 => (if v21 = 0 then (mLt (l1I + (1 : Int32)) fun x27 => (rec 2 Ln (x27) V22)) else some ((.inr ((0 : Int32))), Ln, V22)))))
def mX11_isSound_go (F : Nat) : Nat → Nat → (Nat → Nat) → Int32 → mV → Option ((String ⊕ Int32) × (Nat → Nat) × mV)
  | 0, _, _, _, _ => none
  | k' + 1, lab, Ln, l1I, V => if lab = 0 then mX11_isSound_b0 F (mX11_isSound_go F k') Ln l1I V else if lab = 1 then mX11_isSound_b1 F (mX11_isSound_go F k') Ln l1I V else if lab = 2 then mX11_isSound_b2 F (mX11_isSound_go F k') Ln l1I V else none
def mX11_isSound_s (F : Nat) (rec : Nat → (Nat → Nat) → Int32 → mV → Option ((String ⊕ Int32) × (Nat → Nat) × mV)) (Ln : Nat → Nat) (V : mV) : Option ((String ⊕ Int32) × (Nat → Nat) × mV) :=
  (rec 0 Ln ((0 : Int32)) V)
def mX11_isSound (F : Nat) (Ln : Nat → Nat) (V : mV) : Option ((String ⊕ Int32) × (Nat → Nat) × mV) := mX11_isSound_s F (mX11_isSound_go F F) Ln V
set_option maxHeartbeats 4000000 in
set_option maxRecDepth 100000 in
theorem MX11_isSound_go {F : Nat} {v : (String ⊕ Int32)} {Ln1 : Nat → Nat} {V1 : mV} : ∀ k' : Nat, (∀ (l1I : Int32) (Ln : Nat → Nat) (V : mV), mX11_isSound_go F k' 0 Ln l1I V = some (v, Ln1, V1) → mP Ln1 ≤ mP Ln) ∧ (∀ (l1I : Int32) (Ln : Nat → Nat) (V : mV), mX11_isSound_go F k' 1 Ln l1I V = some (v, Ln1, V1) → mP Ln1 ≤ mP Ln) ∧ (∀ (l1I : Int32) (Ln : Nat → Nat) (V : mV), mX11_isSound_go F k' 2 Ln l1I V = some (v, Ln1, V1) → mP Ln1 ≤ mP Ln) := by
  intro k'
  induction k' with
  | zero => exact ⟨(fun _ _ _ h => by cases h), (fun _ _ _ h => by cases h), (fun _ _ _ h => by cases h)⟩
  | succ k' ihM =>
    refine ⟨?_, ?_, ?_⟩
    · intro l1I Ln V h
      rw [mX11_isSound_go, if_pos rfl] at h
      unfold mX11_isSound_b0 at h
      rcases mIf_some h with ⟨_, h⟩ | ⟨_, h⟩
      · exact ihM.2.1 _ _ _ h
      · rcases mBT_some h with ⟨_, _, _, z1, h⟩ | ⟨_, _, _, z1, h⟩
        · cases h
          exact MX11_refreshed z1
        · refine Nat.le_trans ?_ (MX11_refreshed z1)
          obtain ⟨_, _, h⟩ := mLt_some h
          exact ihM.1 _ _ _ h
    · intro l1I Ln V h
      rw [mX11_isSound_go, if_neg (by decide), if_pos rfl] at h
      unfold mX11_isSound_b1 at h
      rcases mIf_some h with ⟨_, h⟩ | ⟨_, h⟩
      · exact ihM.2.2 _ _ _ h
      · obtain ⟨_, h⟩ := mGd_some h
        obtain ⟨_, _, _, h⟩ := mBW_some h
        rcases mIf_some h with ⟨_, h⟩ | ⟨_, h⟩
        · cases h
          exact Nat.le_refl _
        · obtain ⟨_, _, h⟩ := mLt_some h
          exact ihM.2.1 _ _ _ h
    · intro l1I Ln V h
      rw [mX11_isSound_go, if_neg (by decide), if_neg (by decide), if_pos rfl] at h
      unfold mX11_isSound_b2 at h
      rcases mIf_some h with ⟨_, h⟩ | ⟨_, h⟩
      · cases h
        exact Nat.le_refl _
      · obtain ⟨_, h⟩ := mGd_some h
        obtain ⟨_, _, _, h⟩ := mBW_some h
        rcases mIf_some h with ⟨_, h⟩ | ⟨_, h⟩
        · obtain ⟨_, _, h⟩ := mLt_some h
          exact ihM.2.2 _ _ _ h
        · cases h
          exact Nat.le_refl _
set_option maxHeartbeats 4000000 in
set_option maxRecDepth 100000 in
theorem MX11_isSound {F : Nat} {Ln Ln1 : Nat → Nat} {V V1 : mV} {v : (String ⊕ Int32)} (h : mX11_isSound F Ln V = some (v, Ln1, V1)) : mP Ln1 ≤ mP Ln := by
  have ihM := MX11_isSound_go (F := F) (v := v) (Ln1 := Ln1) (V1 := V1) F
  unfold mX11_isSound mX11_isSound_s at h
  exact ihM.1 _ _ _ h
set_option maxHeartbeats 4000000 in
set_option maxRecDepth 100000 in
theorem LX11_isSound_go {α : Nat → Nat} {k0 n0 : Nat} {F : Nat} {v : (String ⊕ Int32)} {Ln1 : Nat → Nat} {V1 : mV} {Φ : (Int32 → wPS → Prop)} {Ψ : String → wPS → Prop} : ∀ k' : Nat, (∀ (l1I : Int32) (S : wPS) (V : mV) (Ln : Nat → Nat) (c s : Nat), mRel α S Ln V → mX11_isSound_go F k' 0 Ln l1I V = some (v, Ln1, V1) → c + (mP Ln - mP Ln1) / 16 ≤ k0 → s + (mP Ln - mP Ln1) ≤ n0 → (∀ S1, mRel α S1 Ln1 V1 → mFr α S S1 → mOut Φ Ψ v S1) → rX11_isSound_go F k0 n0 k' 0 c s (α 0) l1I S Φ Ψ) ∧ (∀ (l1I : Int32) (S : wPS) (V : mV) (Ln : Nat → Nat) (c s : Nat), mRel α S Ln V → mX11_isSound_go F k' 1 Ln l1I V = some (v, Ln1, V1) → c + (mP Ln - mP Ln1) / 16 ≤ k0 → s + (mP Ln - mP Ln1) ≤ n0 → (∀ S1, mRel α S1 Ln1 V1 → mFr α S S1 → mOut Φ Ψ v S1) → rX11_isSound_go F k0 n0 k' 1 c s (α 0) l1I S Φ Ψ) ∧ (∀ (l1I : Int32) (S : wPS) (V : mV) (Ln : Nat → Nat) (c s : Nat), mRel α S Ln V → mX11_isSound_go F k' 2 Ln l1I V = some (v, Ln1, V1) → c + (mP Ln - mP Ln1) / 16 ≤ k0 → s + (mP Ln - mP Ln1) ≤ n0 → (∀ S1, mRel α S1 Ln1 V1 → mFr α S S1 → mOut Φ Ψ v S1) → rX11_isSound_go F k0 n0 k' 2 c s (α 0) l1I S Φ Ψ) := by
  intro k'
  induction k' with
  | zero => exact ⟨(fun _ _ _ _ _ _ _ h _ _ _ => by cases h), (fun _ _ _ _ _ _ _ h _ _ _ => by cases h), (fun _ _ _ _ _ _ _ h _ _ _ => by cases h)⟩
  | succ k' ih =>
    have ihM := MX11_isSound_go (F := F) (v := v) (Ln1 := Ln1) (V1 := V1) k'
    refine ⟨?_, ?_, ?_⟩
    · intro l1I S V Ln c s R h hk hn k
      rw [mX11_isSound_go, if_pos rfl] at h
      rw [rX11_isSound_go, if_pos rfl]
      unfold mX11_isSound_b0 at h
      unfold rX11_isSound_b0
      refine mIf h (by rw [show gWitnessworks_entryCount S (α 0) = V.fI 0 2 from (mg_I (i := 0) R (by decide) rfl 2)]) (fun c2 h => ?_) (fun c2 h => ?_)
      · exact ih.2.1 _ _ _ _ _ _ R h (by omega) (by omega) (fun S1 R1 F1 => k S1 R1 F1)
      · rcases mBT_some h with ⟨E0, L0, V0, z0, h⟩ | ⟨v2, L3, V3, hv2, h⟩
        · have m0 : mP L0 ≤ mP Ln := MX11_refreshed z0
          obtain ⟨rfl, rfl, rfl⟩ := mRA3 h
          refine ⟨(mP Ln - mP L0) / 16, mP Ln - mP L0, by omega, by omega, ?_⟩
          exact LX11_refreshed_E z0 R rfl rfl (by omega) (by omega) (fun S0 R0 F0 => k S0 R0 F0)
        · have mv2 : mP L3 ≤ mP Ln := MX11_refreshed hv2
          have qv2 : mP Ln1 ≤ mP L3 := by
            obtain ⟨_, _, h⟩ := mLt_some h
            exact ihM.1 _ _ _ h
          refine ⟨(mP Ln - mP L3) / 16, mP Ln - mP L3, by omega, by omega, ?_⟩
          refine LX11_refreshed_V hv2 R rfl rfl (by omega) (by omega) (fun S3 R3 F3 sv2 => ?_)
          refine mLet h rfl (fun x7 ex7 h => ?_)
          exact ih.1 _ _ _ _ _ _ R3 h (by omega) (by omega) (fun S1 R1 F1 => k S1 R1 (F3.tr F1))
    · intro l1I S V Ln c s R h hk hn k
      rw [mX11_isSound_go, if_neg (by decide), if_pos rfl] at h
      rw [rX11_isSound_go, if_neg (by decide), if_pos rfl]
      unfold mX11_isSound_b1 at h
      unfold rX11_isSound_b1
      refine mIf h (by rw [show gWitnessworks_entryCount S (α 0) = V.fI 0 2 from (mg_I (i := 0) R (by decide) rfl 2)]) (fun c3 h => ?_) (fun c3 h => ?_)
      · exact ih.2.2 _ _ _ _ _ _ R h (by omega) (by omega) (fun S1 R1 F1 => k S1 R1 F1)
      · refine mGd h (by rw [show S.len (wkAd (gWitnessworks_book S (α 0))) = 12 from (mg_len (i := 10) R (mAr (by decide)) (mg_A (t := 10) R rfl rfl))]) (fun c4 h => ?_)
        obtain ⟨v11, V12, hv11, h⟩ := mBW_some h
        refine LX11_isSoundEntry hv11 R (mKA10 (Nat.lt_of_not_le (fun z => c4 (Or.inr z)))) rfl (mg_RA R (mRA10 (Nat.lt_of_not_le (fun z => c4 (Or.inr z)))) (mg_A (t := 10) R rfl rfl) rfl) (fun S12 R12 F12 => ?_)
        refine mIf h Iff.rfl (fun c5 h => ?_) (fun c5 h => ?_)
        · obtain ⟨rfl, rfl, rfl⟩ := mRA3 h
          exact k _ R12 F12
        · refine mLet h rfl (fun x17 ex17 h => ?_)
          exact ih.2.1 _ _ _ _ _ _ R12 h (by omega) (by omega) (fun S1 R1 F1 => k S1 R1 (F12.tr F1))
    · intro l1I S V Ln c s R h hk hn k
      rw [mX11_isSound_go, if_neg (by decide), if_neg (by decide), if_pos rfl] at h
      rw [rX11_isSound_go, if_neg (by decide), if_neg (by decide), if_pos rfl]
      unfold mX11_isSound_b2 at h
      unfold rX11_isSound_b2
      refine mIf h (by rw [show gWitnessworks_claimCount S (α 0) = V.fI 0 15 from (mg_I (i := 0) R (by decide) rfl 15)]) (fun c6 h => ?_) (fun c6 h => ?_)
      · obtain ⟨rfl, rfl, rfl⟩ := mRA3 h
        exact k _ R mFr.rf
      · refine mGd h (by rw [show S.len (wkAd (gWitnessworks_claims S (α 0))) = 16 from (mg_len (i := 17) R (mAr (by decide)) (mg_A (t := 17) R rfl rfl))]) (fun c7 h => ?_)
        obtain ⟨v21, V22, hv21, h⟩ := mBW_some h
        refine LX11_isUnsoundClaim hv21 R (mg_CLk R (Nat.lt_of_not_le (fun z => c7 (Or.inr z)))) rfl (mg_CL R (Nat.lt_of_not_le (fun z => c7 (Or.inr z))) (mg_A (t := 17) R rfl rfl) rfl) (fun S22 R22 F22 => ?_)
        refine mIf h Iff.rfl (fun c8 h => ?_) (fun c8 h => ?_)
        · refine mLet h rfl (fun x27 ex27 h => ?_)
          exact ih.2.2 _ _ _ _ _ _ R22 h (by omega) (by omega) (fun S1 R1 F1 => k S1 R1 (F22.tr F1))
        · obtain ⟨rfl, rfl, rfl⟩ := mRA3 h
          exact k _ R22 F22
set_option maxHeartbeats 4000000 in
set_option maxRecDepth 100000 in
theorem LX11_isSound {α : Nat → Nat} {F : Nat} {S : wPS} {Ln Ln1 : Nat → Nat} {V V1 : mV} {v : (String ⊕ Int32)} {Φ : (Int32 → wPS → Prop)} {Ψ : String → wPS → Prop} {l0Ax : Nat} {k0 n0 : Nat} (h : mX11_isSound F Ln V = some (v, Ln1, V1)) (R : mRel α S Ln V) (el0A : l0Ax = α 0) (hk : (mP Ln - mP Ln1) / 16 ≤ k0) (hn : mP Ln - mP Ln1 ≤ n0) (k : (∀ S1, mRel α S1 Ln1 V1 → mFr α S S1 → mOut Φ Ψ v S1)) : rX11_isSound F k0 n0 l0Ax S Φ Ψ := by
  have el0A := el0A.symm
  subst el0A
  have ih := LX11_isSound_go  (α := α) (F := F) (v := v) (k0 := k0) (n0 := n0) (Ln1 := Ln1) (Φ := Φ) (V1 := V1) (Ψ := Ψ) F
  have ihM := MX11_isSound_go (F := F) (v := v) (Ln1 := Ln1) (V1 := V1) F
  unfold mX11_isSound mX11_isSound_s at h
  unfold rX11_isSound rX11_isSound_s
  exact ih.1 _ _ _ _ _ _ R h (by omega) (by omega) (fun S1 R1 F1 => k S1 R1 F1)
theorem LX11_isSound_E {α : Nat → Nat} {F : Nat} {S : wPS} {Ln Ln1 : Nat → Nat} {V V1 : mV} {e : String} {Φ : (Int32 → wPS → Prop)} {Ψ : String → wPS → Prop} {l0Ax : Nat} {k0 n0 : Nat} (h : mX11_isSound F Ln V = some (.inl e, Ln1, V1)) (R : mRel α S Ln V) (el0A : l0Ax = α 0) (hk : (mP Ln - mP Ln1) / 16 ≤ k0) (hn : mP Ln - mP Ln1 ≤ n0) (k : ∀ S1, mRel α S1 Ln1 V1 → mFr α S S1 → Ψ e S1) : rX11_isSound F k0 n0 l0Ax S Φ Ψ := LX11_isSound h R el0A hk hn k
theorem LX11_isSound_V {α : Nat → Nat} {F : Nat} {S : wPS} {Ln Ln1 : Nat → Nat} {V V1 : mV} {a : Int32} {Φ : (Int32 → wPS → Prop)} {Ψ : String → wPS → Prop} {l0Ax : Nat} {k0 n0 : Nat} (h : mX11_isSound F Ln V = some (.inr a, Ln1, V1)) (R : mRel α S Ln V) (el0A : l0Ax = α 0) (hk : (mP Ln - mP Ln1) / 16 ≤ k0) (hn : mP Ln - mP Ln1 ≤ n0) (k : ∀ S1, mRel α S1 Ln1 V1 → mFr α S S1 → Φ a S1) : rX11_isSound F k0 n0 l0Ax S Φ Ψ := LX11_isSound h R el0A hk hn k
def mL_cell (G : wkG) (F : Nat) (l1I : Int32) : Option Int32 :=
  (if (Int32.ofNat (G.1 9)) ≤ l1I then some ((((7919 : Int32) * l1I) + (12 : Int32))) else (if l1I < 0 ∨ G.1 9 ≤ (l1I).toNatClampNeg then none else some ((Int32.ofNat (G.1 (100 + (l1I).toNatClampNeg))))))
set_option maxHeartbeats 4000000 in
set_option maxRecDepth 100000 in
theorem LL_cell {G : wkG} {F : Nat} {S : wPS} {v : Int32} {Φ : (Int32 → wPS → Prop)} {l1Ix l1I : Int32} (h : mL_cell G F l1I  = some v) (el1I : l1Ix = l1I) (k : (Φ v S)) : rL_cell G F l1Ix S Φ := by
  have el1I := el1I.symm
  subst el1I
  unfold mL_cell at h
  unfold rL_cell
  refine mIf h Iff.rfl (fun c1 h => ?_) (fun c1 h => ?_)
  · cases h
    exact k
  · refine mGd h Iff.rfl (fun c2 h => ?_)
    cases h
    exact k
def mL_chosen (G : wkG) (F : Nat) (l0I : Int32) (l1I : Int32) : Option Int32 :=
  (if l1I = 0 then none else some (((l0I &&& (2147483647 : Int32)) - (l0I &&& (2147483647 : Int32)) / l1I * l1I)))
set_option maxHeartbeats 4000000 in
set_option maxRecDepth 100000 in
theorem LL_chosen {G : wkG} {F : Nat} {S : wPS} {v : Int32} {Φ : (Int32 → wPS → Prop)} {l0Ix l0I : Int32} {l1Ix l1I : Int32} (h : mL_chosen G F l0I l1I  = some v) (el0I : l0Ix = l0I) (el1I : l1Ix = l1I) (k : (Φ v S)) : rL_chosen G F l0Ix l1Ix S Φ := by
  have el0I := el0I.symm
  subst el0I
  have el1I := el1I.symm
  subst el1I
  unfold mL_chosen at h
  unfold rL_chosen
  refine mGd h Iff.rfl (fun c1 h => ?_)
  cases h
  exact k
def mL_entries (G : wkG) (F : Nat) (V : mV) : Option Int64 :=
  (mBN (mX11_entries F V) fun v1 => some ((Int32.toInt64 v1)))
set_option maxHeartbeats 4000000 in
set_option maxRecDepth 100000 in
theorem LL_entries {G : wkG} {α : Nat → Nat} {F : Nat} {S : wPS} {Ln : Nat → Nat} {V : mV} {v : Int64} {Φ : (Int64 → wPS → Prop)} {l0Ax : Nat} (h : mL_entries G F V = some v) (R : mRel α S Ln V) (el0A : l0Ax = α 0) (k : (Φ v S)) : rL_entries G F l0Ax S Φ := by
  have el0A := el0A.symm
  subst el0A
  unfold mL_entries at h
  unfold rL_entries
  obtain ⟨v1, hv1, h⟩ := mBN_some h
  refine LX11_entries hv1 R rfl ?_
  cases h
  exact k
end
