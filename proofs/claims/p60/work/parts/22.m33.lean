/-! LIFTED BY PROGRAM (lift.py): X11_settleClaims, X11_isSoundEntry, X11_isUnsoundClaim, X4_solve. -/
section
def mX11_settleClaims_b0 (F : Nat) (rec : Nat → (Nat → Nat) → Int32 → Int32 → Int32 → mV → Option (Unit × (Nat → Nat) × mV)) (Ln : Nat → Nat) (l1I : Int32) (l2I : Int32) (l3I : Int32) (V : mV) : Option (Unit × (Nat → Nat) × mV) :=
  (if (16 : Int32) ≤ l3I then some ((), Ln, V) else (if (V.fI 0 15) ≤ l2I then some ((), Ln, V) else (if l2I < 0 ∨ 16 ≤ (l2I).toNatClampNeg then none else (if (V.fI (V.cl (l2I).toNatClampNeg) 1) = l1I then (if l1I < 0 ∨ 12 ≤ (l1I).toNatClampNeg then none else (if l2I < 0 ∨ 16 ≤ (l2I).toNatClampNeg then none else (if l2I < 0 ∨ 16 ≤ (l2I).toNatClampNeg then none else (mBW (mX4_judge F Ln (256 + 8 * (l1I).toNatClampNeg) ((V.cl (l2I).toNatClampNeg) + 1) ((V.fI (V.cl (l2I).toNatClampNeg) 2)) V) fun v14 V15 => (if v14 = 0 then (mLt (l2I + (1 : Int32)) fun x20 => (mLt (l3I + (1 : Int32)) fun x21 => (rec 0 Ln (l1I) (x20) (x21) V15))) else (mBA (mX11_addError F Ln (l1I) ((99 : Int32)) (v14) V15) fun v22 L23 V23 => (mBW (mX11_removeClaim F (l2I) V23) fun v27 V28 => (mLt (l3I + (1 : Int32)) fun x32 => (rec 0 L23 (l1I) (l2I) (x32) V28))))))))) else (mLt (l2I + (1 : Int32)) fun x6 => (mLt (l3I + (1 : Int32)) fun x7 => (rec 0 Ln (l1I) (x6) (x7) V)))))))
def mX11_settleClaims_go (F : Nat) : Nat → Nat → (Nat → Nat) → Int32 → Int32 → Int32 → mV → Option (Unit × (Nat → Nat) × mV)
  | 0, _, _, _, _, _, _ => none
  | k' + 1, lab, Ln, l1I, l2I, l3I, V => if lab = 0 then mX11_settleClaims_b0 F (mX11_settleClaims_go F k') Ln l1I l2I l3I V else none
def mX11_settleClaims_s (F : Nat) (rec : Nat → (Nat → Nat) → Int32 → Int32 → Int32 → mV → Option (Unit × (Nat → Nat) × mV)) (Ln : Nat → Nat) (l1I : Int32) (V : mV) : Option (Unit × (Nat → Nat) × mV) :=
  (rec 0 Ln (l1I) ((0 : Int32)) ((0 : Int32)) V)
def mX11_settleClaims (F : Nat) (Ln : Nat → Nat) (l1I : Int32) (V : mV) : Option (Unit × (Nat → Nat) × mV) := mX11_settleClaims_s F (mX11_settleClaims_go F F) Ln l1I V
set_option maxHeartbeats 4000000 in
set_option maxRecDepth 100000 in
theorem MX11_settleClaims_go {F : Nat} {v : Unit} {Ln1 : Nat → Nat} {V1 : mV} : ∀ k' : Nat, (∀ (l1I : Int32) (l2I : Int32) (l3I : Int32) (Ln : Nat → Nat) (V : mV), mX11_settleClaims_go F k' 0 Ln l1I l2I l3I V = some (v, Ln1, V1) → mP Ln1 ≤ mP Ln) := by
  intro k'
  induction k' with
  | zero => exact (fun _ _ _ _ _ h => by cases h)
  | succ k' ihM =>
    skip
    intro l1I l2I l3I Ln V h
    rw [mX11_settleClaims_go, if_pos rfl] at h
    unfold mX11_settleClaims_b0 at h
    rcases mIf_some h with ⟨_, h⟩ | ⟨_, h⟩
    · cases h
      exact Nat.le_refl _
    · rcases mIf_some h with ⟨_, h⟩ | ⟨_, h⟩
      · cases h
        exact Nat.le_refl _
      · obtain ⟨_, h⟩ := mGd_some h
        rcases mIf_some h with ⟨_, h⟩ | ⟨_, h⟩
        · obtain ⟨_, h⟩ := mGd_some h
          obtain ⟨_, h⟩ := mGd_some h
          obtain ⟨_, h⟩ := mGd_some h
          obtain ⟨_, _, _, h⟩ := mBW_some h
          rcases mIf_some h with ⟨_, h⟩ | ⟨_, h⟩
          · obtain ⟨_, _, h⟩ := mLt_some h
            obtain ⟨_, _, h⟩ := mLt_some h
            exact ihM _ _ _ _ _ h
          · obtain ⟨_, _, _, z1, h⟩ := mBA_some h
            refine Nat.le_trans ?_ (MX11_addError z1)
            obtain ⟨_, _, _, h⟩ := mBW_some h
            obtain ⟨_, _, h⟩ := mLt_some h
            exact ihM _ _ _ _ _ h
        · obtain ⟨_, _, h⟩ := mLt_some h
          obtain ⟨_, _, h⟩ := mLt_some h
          exact ihM _ _ _ _ _ h
set_option maxHeartbeats 4000000 in
set_option maxRecDepth 100000 in
theorem MX11_settleClaims {F : Nat} {Ln Ln1 : Nat → Nat} {V V1 : mV} {v : Unit} {l1I : Int32} (h : mX11_settleClaims F Ln l1I V = some (v, Ln1, V1)) : mP Ln1 ≤ mP Ln := by
  have ihM := MX11_settleClaims_go (F := F) (v := v) (Ln1 := Ln1) (V1 := V1) F
  unfold mX11_settleClaims mX11_settleClaims_s at h
  exact ihM _ _ _ _ _ h
set_option maxHeartbeats 4000000 in
set_option maxRecDepth 100000 in
theorem LX11_settleClaims_go {α : Nat → Nat} {k0 n0 : Nat} {F : Nat} {v : Unit} {Ln1 : Nat → Nat} {V1 : mV} {Φ : (Unit → wPS → Prop)} : ∀ k' : Nat, (∀ (l1I : Int32) (l2I : Int32) (l3I : Int32) (S : wPS) (V : mV) (Ln : Nat → Nat) (c s : Nat), mRel α S Ln V → mX11_settleClaims_go F k' 0 Ln l1I l2I l3I V = some (v, Ln1, V1) → c + (mP Ln - mP Ln1) / 16 ≤ k0 → s + (mP Ln - mP Ln1) ≤ n0 → (∀ S1, mRel α S1 Ln1 V1 → mFr α S S1 → Φ v S1) → rX11_settleClaims_go F k0 n0 k' 0 c s (α 0) l1I l2I l3I S Φ) := by
  intro k'
  induction k' with
  | zero => exact (fun _ _ _ _ _ _ _ _ _ h _ _ _ => by cases h)
  | succ k' ih =>
    have ihM := MX11_settleClaims_go (F := F) (v := v) (Ln1 := Ln1) (V1 := V1) k'
    intro l1I l2I l3I S V Ln c s R h hk hn k
    rw [mX11_settleClaims_go, if_pos rfl] at h
    rw [rX11_settleClaims_go, if_pos rfl]
    unfold mX11_settleClaims_b0 at h
    unfold rX11_settleClaims_b0
    refine mIf h Iff.rfl (fun c2 h => ?_) (fun c2 h => ?_)
    · obtain ⟨rfl, rfl, rfl⟩ := mRA3 h
      exact k _ R mFr.rf
    · refine mIf h (by rw [show gWitnessworks_claimCount S (α 0) = V.fI 0 15 from (mg_I (i := 0) R (by decide) rfl 15)]) (fun c3 h => ?_) (fun c3 h => ?_)
      · obtain ⟨rfl, rfl, rfl⟩ := mRA3 h
        exact k _ R mFr.rf
      · refine mGd h (by rw [show S.len (wkAd (gWitnessworks_claims S (α 0))) = 16 from (mg_len (i := 17) R (mAr (by decide)) (mg_A (t := 17) R rfl rfl))]) (fun c4 h => ?_)
        refine mIf h (by rw [show gClaim_entry S (wkAd (S.rA (wkAd (gWitnessworks_claims S (α 0))) (l2I).toNatClampNeg)) = V.fI (V.cl (l2I).toNatClampNeg) 1 from (mg_I (i := (V.cl (l2I).toNatClampNeg)) R (mO0 (mg_CLk R (Nat.lt_of_not_le (fun z => c4 (Or.inr z))))) (mg_CL R (Nat.lt_of_not_le (fun z => c4 (Or.inr z))) (mg_A (t := 17) R rfl rfl) rfl) 1)]) (fun c5 h => ?_) (fun c5 h => ?_)
        · refine mGd h (by rw [show S.len (wkAd (gWitnessworks_book S (α 0))) = 12 from (mg_len (i := 10) R (mAr (by decide)) (mg_A (t := 10) R rfl rfl))]) (fun c6 h => ?_)
          refine mGd h (by rw [show S.len (wkAd (gWitnessworks_claims S (α 0))) = 16 from (mg_len (i := 17) R (mAr (by decide)) (mg_A (t := 17) R rfl rfl))]) (fun c7 h => ?_)
          refine mGd h (by rw [show S.len (wkAd (gWitnessworks_claims S (α 0))) = 16 from (mg_len (i := 17) R (mAr (by decide)) (mg_A (t := 17) R rfl rfl))]) (fun c8 h => ?_)
          obtain ⟨v14, V15, hv14, h⟩ := mBW_some h
          refine LX4_judge hv14 R (mKA10 (Nat.lt_of_not_le (fun z => c6 (Or.inr z)))) (mKc1 (mg_CLk R (Nat.lt_of_not_le (fun z => c8 (Or.inr z))))) (mg_A (t := 1) R rfl rfl) (mg_RA R (mRA10 (Nat.lt_of_not_le (fun z => c6 (Or.inr z)))) (mg_A (t := 10) R rfl rfl) rfl) (mg_A (t := ((V.cl (l2I).toNatClampNeg) + 1)) R (mRc (mg_CLk R (Nat.lt_of_not_le (fun z => c8 (Or.inr z))))) (mg_CL R (Nat.lt_of_not_le (fun z => c8 (Or.inr z))) (mg_A (t := 17) R rfl rfl) rfl)) (by rw [show gClaim_isWitness S (wkAd (S.rA (wkAd (gWitnessworks_claims S (α 0))) (l2I).toNatClampNeg)) = V.fI (V.cl (l2I).toNatClampNeg) 2 from (mg_I (i := (V.cl (l2I).toNatClampNeg)) R (mO0 (mg_CLk R (Nat.lt_of_not_le (fun z => c8 (Or.inr z))))) (mg_CL R (Nat.lt_of_not_le (fun z => c8 (Or.inr z))) (mg_A (t := 17) R rfl rfl) rfl) 2)]) (fun S15 R15 F15 => ?_)
          refine mIf h Iff.rfl (fun c9 h => ?_) (fun c9 h => ?_)
          · refine mLet h rfl (fun x20 ex20 h => ?_)
            refine mLet h rfl (fun x21 ex21 h => ?_)
            exact ih _ _ _ _ _ _ _ _ R15 h (by omega) (by omega) (fun S1 R1 F1 => k S1 R1 (F15.tr F1))
          · obtain ⟨v22, L23, V23, hv22, h⟩ := mBA_some h
            have mv22 : mP L23 ≤ mP Ln := MX11_addError hv22
            have qv22 : mP Ln1 ≤ mP L23 := by
              obtain ⟨_, _, _, h⟩ := mBW_some h
              obtain ⟨_, _, h⟩ := mLt_some h
              exact ihM _ _ _ _ _ h
            refine ⟨(mP Ln - mP L23) / 16, mP Ln - mP L23, by omega, by omega, ?_⟩
            refine LX11_addError hv22 R15 rfl rfl rfl rfl (by omega) (by omega) (fun S23 R23 F23 => ?_)
            obtain ⟨v27, V28, hv27, h⟩ := mBW_some h
            refine LX11_removeClaim hv27 R23 rfl rfl (fun S28 R28 F28 => ?_)
            refine mLet h rfl (fun x32 ex32 h => ?_)
            exact ih _ _ _ _ _ _ _ _ R28 h (by omega) (by omega) (fun S1 R1 F1 => k S1 R1 (F15.tr (F23.tr (F28.tr F1))))
        · refine mLet h rfl (fun x6 ex6 h => ?_)
          refine mLet h rfl (fun x7 ex7 h => ?_)
          exact ih _ _ _ _ _ _ _ _ R h (by omega) (by omega) (fun S1 R1 F1 => k S1 R1 F1)
set_option maxHeartbeats 4000000 in
set_option maxRecDepth 100000 in
theorem LX11_settleClaims {α : Nat → Nat} {F : Nat} {S : wPS} {Ln Ln1 : Nat → Nat} {V V1 : mV} {v : Unit} {Φ : (Unit → wPS → Prop)} {l0Ax : Nat} {l1Ix l1I : Int32} {k0 n0 : Nat} (h : mX11_settleClaims F Ln l1I V = some (v, Ln1, V1)) (R : mRel α S Ln V) (el0A : l0Ax = α 0) (el1I : l1Ix = l1I) (hk : (mP Ln - mP Ln1) / 16 ≤ k0) (hn : mP Ln - mP Ln1 ≤ n0) (k : (∀ S1, mRel α S1 Ln1 V1 → mFr α S S1 → Φ v S1)) : rX11_settleClaims F k0 n0 l0Ax l1Ix S Φ := by
  have el0A := el0A.symm
  subst el0A
  have el1I := el1I.symm
  subst el1I
  have ih := LX11_settleClaims_go  (α := α) (F := F) (v := v) (k0 := k0) (n0 := n0) (Ln1 := Ln1) (Φ := Φ) (V1 := V1) F
  have ihM := MX11_settleClaims_go (F := F) (v := v) (Ln1 := Ln1) (V1 := V1) F
  unfold mX11_settleClaims mX11_settleClaims_s at h
  unfold rX11_settleClaims rX11_settleClaims_s
  exact ih _ _ _ _ _ _ _ _ R h (by omega) (by omega) (fun S1 R1 F1 => k S1 R1 F1)
def mX11_isSoundEntry (F : Nat) (Ln : Nat → Nat) (l1A : Nat) (V : mV) : Option (Int32 × mV) :=
  (if (V.fI l1A 11) = (121 : Int32) then (mBW (mX4_judge F Ln l1A (l1A + 2) ((1 : Int32)) V) fun v17 V18 => (if v17 = 0 then (mBW (mX11_wouldBeCarriedSo F l1A V18) fun v23 V24 => (if v23 = 0 then some ((1 : Int32), V24) else (if (V24.fI l1A 5) < 0 ∨ 12 ≤ ((V24.fI l1A 5)).toNatClampNeg then none else (if (V24.fI (256 + 8 * ((V24.fI l1A 5)).toNatClampNeg) 11) = (V24.fI l1A 11) then some ((1 : Int32), V24) else some ((0 : Int32), V24))))) else some ((0 : Int32), V18))) else (mBW (mX4_judge F Ln l1A (l1A + 2) ((0 : Int32)) V) fun v2 V3 => (if v2 = 0 then (mBW (mX11_wouldBeCarriedSo F l1A V3) fun v8 V9 => (if v8 = 0 then some ((1 : Int32), V9) else (if (V9.fI l1A 5) < 0 ∨ 12 ≤ ((V9.fI l1A 5)).toNatClampNeg then none else (if (V9.fI (256 + 8 * ((V9.fI l1A 5)).toNatClampNeg) 11) = (V9.fI l1A 11) then some ((1 : Int32), V9) else some ((0 : Int32), V9))))) else some ((0 : Int32), V3))))
set_option maxHeartbeats 4000000 in
set_option maxRecDepth 100000 in
theorem LX11_isSoundEntry {α : Nat → Nat} {F : Nat} {S : wPS} {Ln : Nat → Nat} {V V1 : mV} {v : Int32} {Φ : (Int32 → wPS → Prop)} {l0Ax : Nat} {l1Ax : Nat} {l1A : Nat} (h : mX11_isSoundEntry F Ln l1A V = some (v, V1)) (R : mRel α S Ln V) (sl1A : mK l1A = 3) (el0A : l0Ax = α 0) (el1A : l1Ax = α l1A) (k : (∀ S1, mRel α S1 Ln V1 → mFr α S S1 → Φ v S1)) : rX11_isSoundEntry F l0Ax l1Ax S Φ := by
  have el0A := el0A.symm
  subst el0A
  have el1A := el1A.symm
  subst el1A
  unfold mX11_isSoundEntry at h
  unfold rX11_isSoundEntry
  refine mIf h (by rw [show gEntry_reply S (α l1A) = V.fI l1A 11 from (mg_I (i := l1A) R (mO3 sl1A) rfl 11)]) (fun c1 h => ?_) (fun c1 h => ?_)
  · obtain ⟨v17, V18, hv17, h⟩ := mBW_some h
    refine LX4_judge hv17 R sl1A (mKe2 sl1A) (mg_A (t := 1) R rfl rfl) rfl (mg_A (t := (l1A + 2)) R (mRe sl1A rfl) rfl) rfl (fun S18 R18 F18 => ?_)
    refine mIf h Iff.rfl (fun c2 h => ?_) (fun c2 h => ?_)
    · obtain ⟨v23, V24, hv23, h⟩ := mBW_some h
      refine LX11_wouldBeCarriedSo hv23 R18 sl1A rfl rfl (fun S24 R24 F24 => ?_)
      refine mIf h Iff.rfl (fun c3 h => ?_) (fun c3 h => ?_)
      · obtain ⟨rfl, rfl⟩ := mRW h
        exact k _ R24 (F18.tr F24)
      · refine mGd h (by rw [show S24.len (wkAd (gWitnessworks_book S24 (α 0))) = 12 from (mg_len (i := 10) R24 (mAr (by decide)) (mg_A (t := 10) R24 rfl rfl)), show gEntry_origin S24 (α l1A) = V24.fI l1A 5 from (mg_I (i := l1A) R24 (mO3 sl1A) rfl 5)]) (fun c4 h => ?_)
        refine mIf h (by rw [show gEntry_reply S24 (wkAd (S24.rA (wkAd (gWitnessworks_book S24 (α 0))) ((gEntry_origin S24 (α l1A))).toNatClampNeg)) = V24.fI (256 + 8 * ((V24.fI l1A 5)).toNatClampNeg) 11 from (mg_I (i := (256 + 8 * ((V24.fI l1A 5)).toNatClampNeg)) R24 (mO3 (mKA10 (Nat.lt_of_not_le (fun z => c4 (Or.inr z))))) (mg_RA R24 (mRA10 (Nat.lt_of_not_le (fun z => c4 (Or.inr z)))) (mg_A (t := 10) R24 rfl rfl) (by rw [show gEntry_origin S24 (α l1A) = V24.fI l1A 5 from (mg_I (i := l1A) R24 (mO3 sl1A) rfl 5)])) 11), show gEntry_reply S24 (α l1A) = V24.fI l1A 11 from (mg_I (i := l1A) R24 (mO3 sl1A) rfl 11)]) (fun c5 h => ?_) (fun c5 h => ?_)
        · obtain ⟨rfl, rfl⟩ := mRW h
          exact k _ R24 (F18.tr F24)
        · obtain ⟨rfl, rfl⟩ := mRW h
          exact k _ R24 (F18.tr F24)
    · obtain ⟨rfl, rfl⟩ := mRW h
      exact k _ R18 F18
  · obtain ⟨v2, V3, hv2, h⟩ := mBW_some h
    refine LX4_judge hv2 R sl1A (mKe2 sl1A) (mg_A (t := 1) R rfl rfl) rfl (mg_A (t := (l1A + 2)) R (mRe sl1A rfl) rfl) rfl (fun S3 R3 F3 => ?_)
    refine mIf h Iff.rfl (fun c6 h => ?_) (fun c6 h => ?_)
    · obtain ⟨v8, V9, hv8, h⟩ := mBW_some h
      refine LX11_wouldBeCarriedSo hv8 R3 sl1A rfl rfl (fun S9 R9 F9 => ?_)
      refine mIf h Iff.rfl (fun c7 h => ?_) (fun c7 h => ?_)
      · obtain ⟨rfl, rfl⟩ := mRW h
        exact k _ R9 (F3.tr F9)
      · refine mGd h (by rw [show S9.len (wkAd (gWitnessworks_book S9 (α 0))) = 12 from (mg_len (i := 10) R9 (mAr (by decide)) (mg_A (t := 10) R9 rfl rfl)), show gEntry_origin S9 (α l1A) = V9.fI l1A 5 from (mg_I (i := l1A) R9 (mO3 sl1A) rfl 5)]) (fun c8 h => ?_)
        refine mIf h (by rw [show gEntry_reply S9 (wkAd (S9.rA (wkAd (gWitnessworks_book S9 (α 0))) ((gEntry_origin S9 (α l1A))).toNatClampNeg)) = V9.fI (256 + 8 * ((V9.fI l1A 5)).toNatClampNeg) 11 from (mg_I (i := (256 + 8 * ((V9.fI l1A 5)).toNatClampNeg)) R9 (mO3 (mKA10 (Nat.lt_of_not_le (fun z => c8 (Or.inr z))))) (mg_RA R9 (mRA10 (Nat.lt_of_not_le (fun z => c8 (Or.inr z)))) (mg_A (t := 10) R9 rfl rfl) (by rw [show gEntry_origin S9 (α l1A) = V9.fI l1A 5 from (mg_I (i := l1A) R9 (mO3 sl1A) rfl 5)])) 11), show gEntry_reply S9 (α l1A) = V9.fI l1A 11 from (mg_I (i := l1A) R9 (mO3 sl1A) rfl 11)]) (fun c9 h => ?_) (fun c9 h => ?_)
        · obtain ⟨rfl, rfl⟩ := mRW h
          exact k _ R9 (F3.tr F9)
        · obtain ⟨rfl, rfl⟩ := mRW h
          exact k _ R9 (F3.tr F9)
    · obtain ⟨rfl, rfl⟩ := mRW h
      exact k _ R3 F3
def mX11_isUnsoundClaim_b0 (F : Nat) (rec : Nat → (Nat → Nat) → Nat → Nat → Int32 → Int32 → mV → Option (Int32 × mV)) (Ln : Nat → Nat) (l1A : Nat) (l2A : Nat) (s0I : Int32) (s1I : Int32) (V : mV) : Option (Int32 × mV) :=
  (if s0I = s1I then some ((0 : Int32), V) else (mBW (mX4_judge F Ln l2A (l1A + 1) ((V.fI l1A 2)) V) fun v2 V3 => (if v2 = 0 then some ((1 : Int32), V3) else some ((0 : Int32), V3))))
def mX11_isUnsoundClaim_go (F : Nat) : Nat → Nat → (Nat → Nat) → Nat → Nat → Int32 → Int32 → mV → Option (Int32 × mV)
  | 0, _, _, _, _, _, _, _ => none
  | k' + 1, lab, Ln, l1A, l2A, s0I, s1I, V => if lab = 0 then mX11_isUnsoundClaim_b0 F (mX11_isUnsoundClaim_go F k') Ln l1A l2A s0I s1I V else none
def mX11_isUnsoundClaim_s (F : Nat) (rec : Nat → (Nat → Nat) → Nat → Nat → Int32 → Int32 → mV → Option (Int32 × mV)) (Ln : Nat → Nat) (l1A : Nat) (V : mV) : Option (Int32 × mV) :=
  (if (V.fI l1A 1) < 0 ∨ 12 ≤ ((V.fI l1A 1)).toNatClampNeg then none else (if (V.fI (256 + 8 * ((V.fI l1A 1)).toNatClampNeg) 11) = (121 : Int32) then (rec 0 Ln l1A (256 + 8 * ((V.fI l1A 1)).toNatClampNeg) ((V.fI l1A 2)) ((1 : Int32)) V) else (rec 0 Ln l1A (256 + 8 * ((V.fI l1A 1)).toNatClampNeg) ((V.fI l1A 2)) ((0 : Int32)) V)))
def mX11_isUnsoundClaim (F : Nat) (Ln : Nat → Nat) (l1A : Nat) (V : mV) : Option (Int32 × mV) := mX11_isUnsoundClaim_s F (mX11_isUnsoundClaim_go F F) Ln l1A V
set_option maxHeartbeats 4000000 in
set_option maxRecDepth 100000 in
theorem LX11_isUnsoundClaim_go {α : Nat → Nat} {F : Nat} {v : Int32} {V1 : mV} {Φ : (Int32 → wPS → Prop)} : ∀ k' : Nat, (∀ (l1A : Nat) (l2A : Nat) (s0I : Int32) (s1I : Int32) (S : wPS) (V : mV) (Ln : Nat → Nat) , mRel α S Ln V → mK l1A = 0 → mK l2A = 3 → mX11_isUnsoundClaim_go F k' 0 Ln l1A l2A s0I s1I V = some (v, V1) → (∀ S1, mRel α S1 Ln V1 → mFr α S S1 → Φ v S1) → rX11_isUnsoundClaim_go F k' 0 (α 0) (α l1A) (α l2A) s0I s1I S Φ) := by
  intro k'
  induction k' with
  | zero => exact (fun _ _ _ _ _ _ _ _ _ _ h _ => by cases h)
  | succ k' ih =>
    intro l1A l2A s0I s1I S V Ln R sl1A sl2A h k
    rw [mX11_isUnsoundClaim_go, if_pos rfl] at h
    rw [rX11_isUnsoundClaim_go, if_pos rfl]
    unfold mX11_isUnsoundClaim_b0 at h
    unfold rX11_isUnsoundClaim_b0
    refine mIf h Iff.rfl (fun c1 h => ?_) (fun c1 h => ?_)
    · obtain ⟨rfl, rfl⟩ := mRW h
      exact k _ R mFr.rf
    · obtain ⟨v2, V3, hv2, h⟩ := mBW_some h
      refine LX4_judge hv2 R sl2A (mKc1 sl1A) (mg_A (t := 1) R rfl rfl) rfl (mg_A (t := (l1A + 1)) R (mRc sl1A) rfl) (by rw [show gClaim_isWitness S (α l1A) = V.fI l1A 2 from (mg_I (i := l1A) R (mO0 sl1A) rfl 2)]) (fun S3 R3 F3 => ?_)
      refine mIf h Iff.rfl (fun c2 h => ?_) (fun c2 h => ?_)
      · obtain ⟨rfl, rfl⟩ := mRW h
        exact k _ R3 F3
      · obtain ⟨rfl, rfl⟩ := mRW h
        exact k _ R3 F3
set_option maxHeartbeats 4000000 in
set_option maxRecDepth 100000 in
theorem LX11_isUnsoundClaim {α : Nat → Nat} {F : Nat} {S : wPS} {Ln : Nat → Nat} {V V1 : mV} {v : Int32} {Φ : (Int32 → wPS → Prop)} {l0Ax : Nat} {l1Ax : Nat} {l1A : Nat} (h : mX11_isUnsoundClaim F Ln l1A V = some (v, V1)) (R : mRel α S Ln V) (sl1A : mK l1A = 0) (el0A : l0Ax = α 0) (el1A : l1Ax = α l1A) (k : (∀ S1, mRel α S1 Ln V1 → mFr α S S1 → Φ v S1)) : rX11_isUnsoundClaim F l0Ax l1Ax S Φ := by
  have el0A := el0A.symm
  subst el0A
  have el1A := el1A.symm
  subst el1A
  have ih := LX11_isUnsoundClaim_go  (α := α) (F := F) (v := v) (Φ := Φ) (V1 := V1) F
  unfold mX11_isUnsoundClaim mX11_isUnsoundClaim_s at h
  unfold rX11_isUnsoundClaim rX11_isUnsoundClaim_s
  refine mGd h (by rw [show S.len (wkAd (gWitnessworks_book S (α 0))) = 12 from (mg_len (i := 10) R (mAr (by decide)) (mg_A (t := 10) R rfl rfl)), show gClaim_entry S (α l1A) = V.fI l1A 1 from (mg_I (i := l1A) R (mO0 sl1A) rfl 1)]) (fun c3 h => ?_)
  refine mIf h (by rw [show gEntry_reply S (wkAd (S.rA (wkAd (gWitnessworks_book S (α 0))) ((gClaim_entry S (α l1A))).toNatClampNeg)) = V.fI (256 + 8 * ((V.fI l1A 1)).toNatClampNeg) 11 from (mg_I (i := (256 + 8 * ((V.fI l1A 1)).toNatClampNeg)) R (mO3 (mKA10 (Nat.lt_of_not_le (fun z => c3 (Or.inr z))))) (mg_RA R (mRA10 (Nat.lt_of_not_le (fun z => c3 (Or.inr z)))) (mg_A (t := 10) R rfl rfl) (by rw [show gClaim_entry S (α l1A) = V.fI l1A 1 from (mg_I (i := l1A) R (mO0 sl1A) rfl 1)])) 11)]) (fun c4 h => ?_) (fun c4 h => ?_)
  · rw [show (wkAd (S.rA (wkAd (gWitnessworks_book S (α 0))) ((gClaim_entry S (α l1A))).toNatClampNeg)) = α (256 + 8 * ((V.fI l1A 1)).toNatClampNeg) from (mg_RA R (mRA10 (Nat.lt_of_not_le (fun z => c3 (Or.inr z)))) (mg_A (t := 10) R rfl rfl) (by rw [show gClaim_entry S (α l1A) = V.fI l1A 1 from (mg_I (i := l1A) R (mO0 sl1A) rfl 1)])), show gClaim_isWitness S (α l1A) = V.fI l1A 2 from (mg_I (i := l1A) R (mO0 sl1A) rfl 2)]
    exact ih _ _ _ _ _ _ _ R sl1A (mKA10 (Nat.lt_of_not_le (fun z => c3 (Or.inr z)))) h (fun S1 R1 F1 => k S1 R1 F1)
  · rw [show (wkAd (S.rA (wkAd (gWitnessworks_book S (α 0))) ((gClaim_entry S (α l1A))).toNatClampNeg)) = α (256 + 8 * ((V.fI l1A 1)).toNatClampNeg) from (mg_RA R (mRA10 (Nat.lt_of_not_le (fun z => c3 (Or.inr z)))) (mg_A (t := 10) R rfl rfl) (by rw [show gClaim_entry S (α l1A) = V.fI l1A 1 from (mg_I (i := l1A) R (mO0 sl1A) rfl 1)])), show gClaim_isWitness S (α l1A) = V.fI l1A 2 from (mg_I (i := l1A) R (mO0 sl1A) rfl 2)]
    exact ih _ _ _ _ _ _ _ R sl1A (mKA10 (Nat.lt_of_not_le (fun z => c3 (Or.inr z)))) h (fun S1 R1 F1 => k S1 R1 F1)
def mX4_solve (F : Nat) (Ln : Nat → Nat) (l1A : Nat) (V : mV) : Option (Unit × (Nat → Nat) × mV) :=
  (mBW (mX9_clear F (l1A + 2) V) fun v1 V2 => (if (V2.fI l1A 0) = 0 then (mBA (mX7_solvePairings F Ln l1A V2) fun v8 L9 V9 => (mLt (mF V9 l1A 9 ((1 : Int32))) fun V13 => (mLt (mF V13 l1A 10 ((V13.fI l1A 8))) fun V14 => some ((), L9, V14)))) else (if (V2.fI l1A 0) = 1 then (mBA (mX7_solveFlows F Ln l1A V2) fun v16 L17 V17 => (mLt (mF V17 l1A 9 ((1 : Int32))) fun V21 => (mLt (mF V21 l1A 10 ((V21.fI l1A 8))) fun V22 => some ((), L17, V22)))) else (if (V2.fI l1A 0) = 2 then (mBA (mX2_solve F Ln l1A V2) fun v24 L25 V25 => (mLt (mF V25 l1A 9 ((1 : Int32))) fun V29 => (mLt (mF V29 l1A 10 ((V29.fI l1A 8))) fun V30 => some ((), L25, V30)))) else (if (V2.fI l1A 0) = 3 then (mBA (mX5_solve F Ln l1A V2) fun v32 L33 V33 => (mLt (mF V33 l1A 9 ((1 : Int32))) fun V37 => (mLt (mF V37 l1A 10 ((V37.fI l1A 8))) fun V38 => some ((), L33, V38)))) else (if (V2.fI l1A 0) = 4 then (mBA (mX1_solve F Ln l1A V2) fun v40 L41 V41 => (mLt (mF V41 l1A 9 ((1 : Int32))) fun V45 => (mLt (mF V45 l1A 10 ((V45.fI l1A 8))) fun V46 => some ((), L41, V46)))) else (if (V2.fI l1A 0) = 5 then (mBA (mX8_solveEquations F Ln l1A V2) fun v48 L49 V49 => (mLt (mF V49 l1A 9 ((1 : Int32))) fun V53 => (mLt (mF V53 l1A 10 ((V53.fI l1A 8))) fun V54 => some ((), L49, V54)))) else (if (V2.fI l1A 0) = 6 then (mBA (mX8_solvePrimes F Ln l1A V2) fun v56 L57 V57 => (mLt (mF V57 l1A 9 ((1 : Int32))) fun V61 => (mLt (mF V61 l1A 10 ((V61.fI l1A 8))) fun V62 => some ((), L57, V62)))) else (if (V2.fI l1A 0) = 7 then (mBA (mX8_solveRoots F Ln l1A V2) fun v64 L65 V65 => (mLt (mF V65 l1A 9 ((1 : Int32))) fun V69 => (mLt (mF V69 l1A 10 ((V69.fI l1A 8))) fun V70 => some ((), L65, V70)))) else (if (V2.fI l1A 0) = 8 then (mBA (mX10_solvePermutations F Ln l1A V2) fun v72 L73 V73 => (mLt (mF V73 l1A 9 ((1 : Int32))) fun V77 => (mLt (mF V77 l1A 10 ((V77.fI l1A 8))) fun V78 => some ((), L73, V78)))) else (if (V2.fI l1A 0) = 9 then (mBA (mX10_solveWords F Ln l1A V2) fun v80 L81 V81 => (mLt (mF V81 l1A 9 ((1 : Int32))) fun V85 => (mLt (mF V85 l1A 10 ((V85.fI l1A 8))) fun V86 => some ((), L81, V86)))) else (if (V2.fI l1A 0) = 10 then (mBA (mX6_solveMachines F Ln l1A V2) fun v88 L89 V89 => (mLt (mF V89 l1A 9 ((1 : Int32))) fun V93 => (mLt (mF V93 l1A 10 ((V93.fI l1A 8))) fun V94 => some ((), L89, V94)))) else (mBA (mX6_solveGames F Ln l1A V2) fun v95 L96 V96 => (mLt (mF V96 l1A 9 ((1 : Int32))) fun V100 => (mLt (mF V100 l1A 10 ((V100.fI l1A 8))) fun V101 => some ((), L96, V101))))))))))))))))
set_option maxHeartbeats 4000000 in
set_option maxRecDepth 100000 in
theorem MX4_solve {F : Nat} {Ln Ln1 : Nat → Nat} {V V1 : mV} {v : Unit} {l1A : Nat} (h : mX4_solve F Ln l1A V = some (v, Ln1, V1)) : mP Ln1 ≤ mP Ln := by
  unfold mX4_solve at h
  obtain ⟨_, _, _, h⟩ := mBW_some h
  rcases mIf_some h with ⟨_, h⟩ | ⟨_, h⟩
  · obtain ⟨_, _, _, z1, h⟩ := mBA_some h
    refine Nat.le_trans ?_ (MX7_solvePairings z1)
    obtain ⟨_, _, h⟩ := mLt_some h
    obtain ⟨_, _, h⟩ := mLt_some h
    cases h
    exact Nat.le_refl _
  · rcases mIf_some h with ⟨_, h⟩ | ⟨_, h⟩
    · obtain ⟨_, _, _, z2, h⟩ := mBA_some h
      refine Nat.le_trans ?_ (MX7_solveFlows z2)
      obtain ⟨_, _, h⟩ := mLt_some h
      obtain ⟨_, _, h⟩ := mLt_some h
      cases h
      exact Nat.le_refl _
    · rcases mIf_some h with ⟨_, h⟩ | ⟨_, h⟩
      · obtain ⟨_, _, _, z3, h⟩ := mBA_some h
        refine Nat.le_trans ?_ (MX2_solve z3)
        obtain ⟨_, _, h⟩ := mLt_some h
        obtain ⟨_, _, h⟩ := mLt_some h
        cases h
        exact Nat.le_refl _
      · rcases mIf_some h with ⟨_, h⟩ | ⟨_, h⟩
        · obtain ⟨_, _, _, z4, h⟩ := mBA_some h
          refine Nat.le_trans ?_ (MX5_solve z4)
          obtain ⟨_, _, h⟩ := mLt_some h
          obtain ⟨_, _, h⟩ := mLt_some h
          cases h
          exact Nat.le_refl _
        · rcases mIf_some h with ⟨_, h⟩ | ⟨_, h⟩
          · obtain ⟨_, _, _, z5, h⟩ := mBA_some h
            refine Nat.le_trans ?_ (MX1_solve z5)
            obtain ⟨_, _, h⟩ := mLt_some h
            obtain ⟨_, _, h⟩ := mLt_some h
            cases h
            exact Nat.le_refl _
          · rcases mIf_some h with ⟨_, h⟩ | ⟨_, h⟩
            · obtain ⟨_, _, _, z6, h⟩ := mBA_some h
              refine Nat.le_trans ?_ (MX8_solveEquations z6)
              obtain ⟨_, _, h⟩ := mLt_some h
              obtain ⟨_, _, h⟩ := mLt_some h
              cases h
              exact Nat.le_refl _
            · rcases mIf_some h with ⟨_, h⟩ | ⟨_, h⟩
              · obtain ⟨_, _, _, z7, h⟩ := mBA_some h
                refine Nat.le_trans ?_ (MX8_solvePrimes z7)
                obtain ⟨_, _, h⟩ := mLt_some h
                obtain ⟨_, _, h⟩ := mLt_some h
                cases h
                exact Nat.le_refl _
              · rcases mIf_some h with ⟨_, h⟩ | ⟨_, h⟩
                · obtain ⟨_, _, _, z8, h⟩ := mBA_some h
                  refine Nat.le_trans ?_ (MX8_solveRoots z8)
                  obtain ⟨_, _, h⟩ := mLt_some h
                  obtain ⟨_, _, h⟩ := mLt_some h
                  cases h
                  exact Nat.le_refl _
                · rcases mIf_some h with ⟨_, h⟩ | ⟨_, h⟩
                  · obtain ⟨_, _, _, z9, h⟩ := mBA_some h
                    refine Nat.le_trans ?_ (MX10_solvePermutations z9)
                    obtain ⟨_, _, h⟩ := mLt_some h
                    obtain ⟨_, _, h⟩ := mLt_some h
                    cases h
                    exact Nat.le_refl _
                  · rcases mIf_some h with ⟨_, h⟩ | ⟨_, h⟩
                    · obtain ⟨_, _, _, z10, h⟩ := mBA_some h
                      refine Nat.le_trans ?_ (MX10_solveWords z10)
                      obtain ⟨_, _, h⟩ := mLt_some h
                      obtain ⟨_, _, h⟩ := mLt_some h
                      cases h
                      exact Nat.le_refl _
                    · rcases mIf_some h with ⟨_, h⟩ | ⟨_, h⟩
                      · obtain ⟨_, _, _, z11, h⟩ := mBA_some h
                        refine Nat.le_trans ?_ (MX6_solveMachines z11)
                        obtain ⟨_, _, h⟩ := mLt_some h
                        obtain ⟨_, _, h⟩ := mLt_some h
                        cases h
                        exact Nat.le_refl _
                      · obtain ⟨_, _, _, z12, h⟩ := mBA_some h
                        refine Nat.le_trans ?_ (MX6_solveGames z12)
                        obtain ⟨_, _, h⟩ := mLt_some h
                        obtain ⟨_, _, h⟩ := mLt_some h
                        cases h
                        exact Nat.le_refl _
set_option maxHeartbeats 4000000 in
set_option maxRecDepth 100000 in
theorem LX4_solve {α : Nat → Nat} {F : Nat} {S : wPS} {Ln Ln1 : Nat → Nat} {V V1 : mV} {v : Unit} {Φ : (Unit → wPS → Prop)} {l0Ax : Nat} {l1Ax : Nat} {l1A : Nat} {k0 n0 : Nat} (h : mX4_solve F Ln l1A V = some (v, Ln1, V1)) (R : mRel α S Ln V) (sl1A : mK l1A = 3) (el0A : l0Ax = α 1) (el1A : l1Ax = α l1A) (hk : (mP Ln - mP Ln1) / 16 ≤ k0) (hn : mP Ln - mP Ln1 ≤ n0) (k : (∀ S1, mRel α S1 Ln1 V1 → mFr α S S1 → Φ v S1)) : rX4_solve F k0 n0 l0Ax l1Ax S Φ := by
  have el0A := el0A.symm
  subst el0A
  have el1A := el1A.symm
  subst el1A
  unfold mX4_solve at h
  unfold rX4_solve
  obtain ⟨v1, V2, hv1, h⟩ := mBW_some h
  refine LX9_clear hv1 R (mKe2 sl1A) (mg_A (t := (l1A + 2)) R (mRe sl1A rfl) rfl) (fun S2 R2 F2 => ?_)
  refine mIf h (by rw [show gEntry_kind S2 (α l1A) = V2.fI l1A 0 from (mg_I (i := l1A) R2 (mO3 sl1A) rfl 0)]) (fun c13 h => ?_) (fun c13 h => ?_)
  · obtain ⟨v8, L9, V9, hv8, h⟩ := mBA_some h
    have mv8 : mP L9 ≤ mP Ln := MX7_solvePairings hv8
    have qv8 : mP Ln1 ≤ mP L9 := by
      obtain ⟨_, _, h⟩ := mLt_some h
      obtain ⟨_, _, h⟩ := mLt_some h
      cases h
      exact Nat.le_refl _
    refine ⟨(mP Ln - mP L9) / 16, mP Ln - mP L9, by omega, by omega, ?_⟩
    refine LX7_solvePairings hv8 R2 sl1A (mg_A (t := 2) R2 rfl rfl) rfl (by omega) (by omega) (fun S9 R9 F9 => ?_)
    obtain ⟨V13, eV13, h⟩ := mLt_some h
    refine mU_F eV13 R9 (mO3 sl1A) rfl rfl (fun S13 R13 F13 => ?_)
    obtain ⟨V14, eV14, h⟩ := mLt_some h
    refine mU_F eV14 R13 (mO3 sl1A) rfl (by rw [show gEntry_boundNow S13 (α l1A) = V13.fI l1A 8 from (mg_I (i := l1A) R13 (mO3 sl1A) rfl 8)]) (fun S14 R14 F14 => ?_)
    obtain ⟨rfl, rfl, rfl⟩ := mRA3 h
    exact k _ R14 (F2.tr (F9.tr (F13.tr F14)))
  · refine mIf h (by rw [show gEntry_kind S2 (α l1A) = V2.fI l1A 0 from (mg_I (i := l1A) R2 (mO3 sl1A) rfl 0)]) (fun c14 h => ?_) (fun c14 h => ?_)
    · obtain ⟨v16, L17, V17, hv16, h⟩ := mBA_some h
      have mv16 : mP L17 ≤ mP Ln := MX7_solveFlows hv16
      have qv16 : mP Ln1 ≤ mP L17 := by
        obtain ⟨_, _, h⟩ := mLt_some h
        obtain ⟨_, _, h⟩ := mLt_some h
        cases h
        exact Nat.le_refl _
      refine ⟨(mP Ln - mP L17) / 16, mP Ln - mP L17, by omega, by omega, ?_⟩
      refine LX7_solveFlows hv16 R2 sl1A (mg_A (t := 2) R2 rfl rfl) rfl (by omega) (by omega) (fun S17 R17 F17 => ?_)
      obtain ⟨V21, eV21, h⟩ := mLt_some h
      refine mU_F eV21 R17 (mO3 sl1A) rfl rfl (fun S21 R21 F21 => ?_)
      obtain ⟨V22, eV22, h⟩ := mLt_some h
      refine mU_F eV22 R21 (mO3 sl1A) rfl (by rw [show gEntry_boundNow S21 (α l1A) = V21.fI l1A 8 from (mg_I (i := l1A) R21 (mO3 sl1A) rfl 8)]) (fun S22 R22 F22 => ?_)
      obtain ⟨rfl, rfl, rfl⟩ := mRA3 h
      exact k _ R22 (F2.tr (F17.tr (F21.tr F22)))
    · refine mIf h (by rw [show gEntry_kind S2 (α l1A) = V2.fI l1A 0 from (mg_I (i := l1A) R2 (mO3 sl1A) rfl 0)]) (fun c15 h => ?_) (fun c15 h => ?_)
      · obtain ⟨v24, L25, V25, hv24, h⟩ := mBA_some h
        have mv24 : mP L25 ≤ mP Ln := MX2_solve hv24
        have qv24 : mP Ln1 ≤ mP L25 := by
          obtain ⟨_, _, h⟩ := mLt_some h
          obtain ⟨_, _, h⟩ := mLt_some h
          cases h
          exact Nat.le_refl _
        refine ⟨(mP Ln - mP L25) / 16, mP Ln - mP L25, by omega, by omega, ?_⟩
        refine LX2_solve hv24 R2 sl1A (mg_A (t := 3) R2 rfl rfl) rfl (by omega) (by omega) (fun S25 R25 F25 => ?_)
        obtain ⟨V29, eV29, h⟩ := mLt_some h
        refine mU_F eV29 R25 (mO3 sl1A) rfl rfl (fun S29 R29 F29 => ?_)
        obtain ⟨V30, eV30, h⟩ := mLt_some h
        refine mU_F eV30 R29 (mO3 sl1A) rfl (by rw [show gEntry_boundNow S29 (α l1A) = V29.fI l1A 8 from (mg_I (i := l1A) R29 (mO3 sl1A) rfl 8)]) (fun S30 R30 F30 => ?_)
        obtain ⟨rfl, rfl, rfl⟩ := mRA3 h
        exact k _ R30 (F2.tr (F25.tr (F29.tr F30)))
      · refine mIf h (by rw [show gEntry_kind S2 (α l1A) = V2.fI l1A 0 from (mg_I (i := l1A) R2 (mO3 sl1A) rfl 0)]) (fun c16 h => ?_) (fun c16 h => ?_)
        · obtain ⟨v32, L33, V33, hv32, h⟩ := mBA_some h
          have mv32 : mP L33 ≤ mP Ln := MX5_solve hv32
          have qv32 : mP Ln1 ≤ mP L33 := by
            obtain ⟨_, _, h⟩ := mLt_some h
            obtain ⟨_, _, h⟩ := mLt_some h
            cases h
            exact Nat.le_refl _
          refine ⟨(mP Ln - mP L33) / 16, mP Ln - mP L33, by omega, by omega, ?_⟩
          refine LX5_solve hv32 R2 sl1A (mg_A (t := 4) R2 rfl rfl) rfl (by omega) (by omega) (fun S33 R33 F33 => ?_)
          obtain ⟨V37, eV37, h⟩ := mLt_some h
          refine mU_F eV37 R33 (mO3 sl1A) rfl rfl (fun S37 R37 F37 => ?_)
          obtain ⟨V38, eV38, h⟩ := mLt_some h
          refine mU_F eV38 R37 (mO3 sl1A) rfl (by rw [show gEntry_boundNow S37 (α l1A) = V37.fI l1A 8 from (mg_I (i := l1A) R37 (mO3 sl1A) rfl 8)]) (fun S38 R38 F38 => ?_)
          obtain ⟨rfl, rfl, rfl⟩ := mRA3 h
          exact k _ R38 (F2.tr (F33.tr (F37.tr F38)))
        · refine mIf h (by rw [show gEntry_kind S2 (α l1A) = V2.fI l1A 0 from (mg_I (i := l1A) R2 (mO3 sl1A) rfl 0)]) (fun c17 h => ?_) (fun c17 h => ?_)
          · obtain ⟨v40, L41, V41, hv40, h⟩ := mBA_some h
            have mv40 : mP L41 ≤ mP Ln := MX1_solve hv40
            have qv40 : mP Ln1 ≤ mP L41 := by
              obtain ⟨_, _, h⟩ := mLt_some h
              obtain ⟨_, _, h⟩ := mLt_some h
              cases h
              exact Nat.le_refl _
            refine ⟨(mP Ln - mP L41) / 16, mP Ln - mP L41, by omega, by omega, ?_⟩
            refine LX1_solve hv40 R2 sl1A (mg_A (t := 5) R2 rfl rfl) rfl (by omega) (by omega) (fun S41 R41 F41 => ?_)
            obtain ⟨V45, eV45, h⟩ := mLt_some h
            refine mU_F eV45 R41 (mO3 sl1A) rfl rfl (fun S45 R45 F45 => ?_)
            obtain ⟨V46, eV46, h⟩ := mLt_some h
            refine mU_F eV46 R45 (mO3 sl1A) rfl (by rw [show gEntry_boundNow S45 (α l1A) = V45.fI l1A 8 from (mg_I (i := l1A) R45 (mO3 sl1A) rfl 8)]) (fun S46 R46 F46 => ?_)
            obtain ⟨rfl, rfl, rfl⟩ := mRA3 h
            exact k _ R46 (F2.tr (F41.tr (F45.tr F46)))
          · refine mIf h (by rw [show gEntry_kind S2 (α l1A) = V2.fI l1A 0 from (mg_I (i := l1A) R2 (mO3 sl1A) rfl 0)]) (fun c18 h => ?_) (fun c18 h => ?_)
            · obtain ⟨v48, L49, V49, hv48, h⟩ := mBA_some h
              have mv48 : mP L49 ≤ mP Ln := MX8_solveEquations hv48
              have qv48 : mP Ln1 ≤ mP L49 := by
                obtain ⟨_, _, h⟩ := mLt_some h
                obtain ⟨_, _, h⟩ := mLt_some h
                cases h
                exact Nat.le_refl _
              refine ⟨(mP Ln - mP L49) / 16, mP Ln - mP L49, by omega, by omega, ?_⟩
              refine LX8_solveEquations hv48 R2 sl1A (mg_A (t := 6) R2 rfl rfl) rfl (by omega) (by omega) (fun S49 R49 F49 => ?_)
              obtain ⟨V53, eV53, h⟩ := mLt_some h
              refine mU_F eV53 R49 (mO3 sl1A) rfl rfl (fun S53 R53 F53 => ?_)
              obtain ⟨V54, eV54, h⟩ := mLt_some h
              refine mU_F eV54 R53 (mO3 sl1A) rfl (by rw [show gEntry_boundNow S53 (α l1A) = V53.fI l1A 8 from (mg_I (i := l1A) R53 (mO3 sl1A) rfl 8)]) (fun S54 R54 F54 => ?_)
              obtain ⟨rfl, rfl, rfl⟩ := mRA3 h
              exact k _ R54 (F2.tr (F49.tr (F53.tr F54)))
            · refine mIf h (by rw [show gEntry_kind S2 (α l1A) = V2.fI l1A 0 from (mg_I (i := l1A) R2 (mO3 sl1A) rfl 0)]) (fun c19 h => ?_) (fun c19 h => ?_)
              · obtain ⟨v56, L57, V57, hv56, h⟩ := mBA_some h
                have mv56 : mP L57 ≤ mP Ln := MX8_solvePrimes hv56
                have qv56 : mP Ln1 ≤ mP L57 := by
                  obtain ⟨_, _, h⟩ := mLt_some h
                  obtain ⟨_, _, h⟩ := mLt_some h
                  cases h
                  exact Nat.le_refl _
                refine ⟨(mP Ln - mP L57) / 16, mP Ln - mP L57, by omega, by omega, ?_⟩
                refine LX8_solvePrimes hv56 R2 sl1A (mg_A (t := 6) R2 rfl rfl) rfl (by omega) (by omega) (fun S57 R57 F57 => ?_)
                obtain ⟨V61, eV61, h⟩ := mLt_some h
                refine mU_F eV61 R57 (mO3 sl1A) rfl rfl (fun S61 R61 F61 => ?_)
                obtain ⟨V62, eV62, h⟩ := mLt_some h
                refine mU_F eV62 R61 (mO3 sl1A) rfl (by rw [show gEntry_boundNow S61 (α l1A) = V61.fI l1A 8 from (mg_I (i := l1A) R61 (mO3 sl1A) rfl 8)]) (fun S62 R62 F62 => ?_)
                obtain ⟨rfl, rfl, rfl⟩ := mRA3 h
                exact k _ R62 (F2.tr (F57.tr (F61.tr F62)))
              · refine mIf h (by rw [show gEntry_kind S2 (α l1A) = V2.fI l1A 0 from (mg_I (i := l1A) R2 (mO3 sl1A) rfl 0)]) (fun c20 h => ?_) (fun c20 h => ?_)
                · obtain ⟨v64, L65, V65, hv64, h⟩ := mBA_some h
                  have mv64 : mP L65 ≤ mP Ln := MX8_solveRoots hv64
                  have qv64 : mP Ln1 ≤ mP L65 := by
                    obtain ⟨_, _, h⟩ := mLt_some h
                    obtain ⟨_, _, h⟩ := mLt_some h
                    cases h
                    exact Nat.le_refl _
                  refine ⟨(mP Ln - mP L65) / 16, mP Ln - mP L65, by omega, by omega, ?_⟩
                  refine LX8_solveRoots hv64 R2 sl1A (mg_A (t := 6) R2 rfl rfl) rfl (by omega) (by omega) (fun S65 R65 F65 => ?_)
                  obtain ⟨V69, eV69, h⟩ := mLt_some h
                  refine mU_F eV69 R65 (mO3 sl1A) rfl rfl (fun S69 R69 F69 => ?_)
                  obtain ⟨V70, eV70, h⟩ := mLt_some h
                  refine mU_F eV70 R69 (mO3 sl1A) rfl (by rw [show gEntry_boundNow S69 (α l1A) = V69.fI l1A 8 from (mg_I (i := l1A) R69 (mO3 sl1A) rfl 8)]) (fun S70 R70 F70 => ?_)
                  obtain ⟨rfl, rfl, rfl⟩ := mRA3 h
                  exact k _ R70 (F2.tr (F65.tr (F69.tr F70)))
                · refine mIf h (by rw [show gEntry_kind S2 (α l1A) = V2.fI l1A 0 from (mg_I (i := l1A) R2 (mO3 sl1A) rfl 0)]) (fun c21 h => ?_) (fun c21 h => ?_)
                  · obtain ⟨v72, L73, V73, hv72, h⟩ := mBA_some h
                    have mv72 : mP L73 ≤ mP Ln := MX10_solvePermutations hv72
                    have qv72 : mP Ln1 ≤ mP L73 := by
                      obtain ⟨_, _, h⟩ := mLt_some h
                      obtain ⟨_, _, h⟩ := mLt_some h
                      cases h
                      exact Nat.le_refl _
                    refine ⟨(mP Ln - mP L73) / 16, mP Ln - mP L73, by omega, by omega, ?_⟩
                    refine LX10_solvePermutations hv72 R2 sl1A (mg_A (t := 7) R2 rfl rfl) rfl (by omega) (by omega) (fun S73 R73 F73 => ?_)
                    obtain ⟨V77, eV77, h⟩ := mLt_some h
                    refine mU_F eV77 R73 (mO3 sl1A) rfl rfl (fun S77 R77 F77 => ?_)
                    obtain ⟨V78, eV78, h⟩ := mLt_some h
                    refine mU_F eV78 R77 (mO3 sl1A) rfl (by rw [show gEntry_boundNow S77 (α l1A) = V77.fI l1A 8 from (mg_I (i := l1A) R77 (mO3 sl1A) rfl 8)]) (fun S78 R78 F78 => ?_)
                    obtain ⟨rfl, rfl, rfl⟩ := mRA3 h
                    exact k _ R78 (F2.tr (F73.tr (F77.tr F78)))
                  · refine mIf h (by rw [show gEntry_kind S2 (α l1A) = V2.fI l1A 0 from (mg_I (i := l1A) R2 (mO3 sl1A) rfl 0)]) (fun c22 h => ?_) (fun c22 h => ?_)
                    · obtain ⟨v80, L81, V81, hv80, h⟩ := mBA_some h
                      have mv80 : mP L81 ≤ mP Ln := MX10_solveWords hv80
                      have qv80 : mP Ln1 ≤ mP L81 := by
                        obtain ⟨_, _, h⟩ := mLt_some h
                        obtain ⟨_, _, h⟩ := mLt_some h
                        cases h
                        exact Nat.le_refl _
                      refine ⟨(mP Ln - mP L81) / 16, mP Ln - mP L81, by omega, by omega, ?_⟩
                      refine LX10_solveWords hv80 R2 sl1A (mg_A (t := 7) R2 rfl rfl) rfl (by omega) (by omega) (fun S81 R81 F81 => ?_)
                      obtain ⟨V85, eV85, h⟩ := mLt_some h
                      refine mU_F eV85 R81 (mO3 sl1A) rfl rfl (fun S85 R85 F85 => ?_)
                      obtain ⟨V86, eV86, h⟩ := mLt_some h
                      refine mU_F eV86 R85 (mO3 sl1A) rfl (by rw [show gEntry_boundNow S85 (α l1A) = V85.fI l1A 8 from (mg_I (i := l1A) R85 (mO3 sl1A) rfl 8)]) (fun S86 R86 F86 => ?_)
                      obtain ⟨rfl, rfl, rfl⟩ := mRA3 h
                      exact k _ R86 (F2.tr (F81.tr (F85.tr F86)))
                    · refine mIf h (by rw [show gEntry_kind S2 (α l1A) = V2.fI l1A 0 from (mg_I (i := l1A) R2 (mO3 sl1A) rfl 0)]) (fun c23 h => ?_) (fun c23 h => ?_)
                      · obtain ⟨v88, L89, V89, hv88, h⟩ := mBA_some h
                        have mv88 : mP L89 ≤ mP Ln := MX6_solveMachines hv88
                        have qv88 : mP Ln1 ≤ mP L89 := by
                          obtain ⟨_, _, h⟩ := mLt_some h
                          obtain ⟨_, _, h⟩ := mLt_some h
                          cases h
                          exact Nat.le_refl _
                        refine ⟨(mP Ln - mP L89) / 16, mP Ln - mP L89, by omega, by omega, ?_⟩
                        refine LX6_solveMachines hv88 R2 sl1A (mg_A (t := 8) R2 rfl rfl) rfl (by omega) (by omega) (fun S89 R89 F89 => ?_)
                        obtain ⟨V93, eV93, h⟩ := mLt_some h
                        refine mU_F eV93 R89 (mO3 sl1A) rfl rfl (fun S93 R93 F93 => ?_)
                        obtain ⟨V94, eV94, h⟩ := mLt_some h
                        refine mU_F eV94 R93 (mO3 sl1A) rfl (by rw [show gEntry_boundNow S93 (α l1A) = V93.fI l1A 8 from (mg_I (i := l1A) R93 (mO3 sl1A) rfl 8)]) (fun S94 R94 F94 => ?_)
                        obtain ⟨rfl, rfl, rfl⟩ := mRA3 h
                        exact k _ R94 (F2.tr (F89.tr (F93.tr F94)))
                      · obtain ⟨v95, L96, V96, hv95, h⟩ := mBA_some h
                        have mv95 : mP L96 ≤ mP Ln := MX6_solveGames hv95
                        have qv95 : mP Ln1 ≤ mP L96 := by
                          obtain ⟨_, _, h⟩ := mLt_some h
                          obtain ⟨_, _, h⟩ := mLt_some h
                          cases h
                          exact Nat.le_refl _
                        refine ⟨(mP Ln - mP L96) / 16, mP Ln - mP L96, by omega, by omega, ?_⟩
                        refine LX6_solveGames hv95 R2 sl1A (mg_A (t := 8) R2 rfl rfl) rfl (by omega) (by omega) (fun S96 R96 F96 => ?_)
                        obtain ⟨V100, eV100, h⟩ := mLt_some h
                        refine mU_F eV100 R96 (mO3 sl1A) rfl rfl (fun S100 R100 F100 => ?_)
                        obtain ⟨V101, eV101, h⟩ := mLt_some h
                        refine mU_F eV101 R100 (mO3 sl1A) rfl (by rw [show gEntry_boundNow S100 (α l1A) = V100.fI l1A 8 from (mg_I (i := l1A) R100 (mO3 sl1A) rfl 8)]) (fun S101 R101 F101 => ?_)
                        obtain ⟨rfl, rfl, rfl⟩ := mRA3 h
                        exact k _ R101 (F2.tr (F96.tr (F100.tr F101)))
end
