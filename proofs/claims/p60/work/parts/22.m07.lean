/-! LIFTED BY PROGRAM (lift.py): X11_mostItems, X11_entryAt, X11_testPlace, X11_testRange, X11_tellNumbers, X11_leadsTo, X11_remember, X11_removeClaim, X11_has, X11_lowest, X11_hangingTogether, X11_divisorInCommon, X11_restOfPower, J11_isValidCodePoint_9a6ad, J11_highSurrogate_5068e. -/
section
def mX11_mostItems (F : Nat) (l0A : Nat) (V : mV) : Option Int32 :=
  (if (V.fI l0A 0) = (10 : Int32) then some ((V.fI l0A 1)) else (if (V.fI l0A 0) = (11 : Int32) then some ((V.fI l0A 1)) else (if (V.fI l0A 0) < 0 ∨ 12 ≤ ((V.fI l0A 0)).toNatClampNeg then none else some ((wkTab 4 ((V.fI l0A 0)).toNatClampNeg)))))
set_option maxHeartbeats 4000000 in
set_option maxRecDepth 100000 in
theorem LX11_mostItems {α : Nat → Nat} {F : Nat} {S : wPS} {Ln : Nat → Nat} {V : mV} {v : Int32} {Φ : (Int32 → wPS → Prop)} {l0Ax : Nat} {l0A : Nat} (h : mX11_mostItems F l0A V = some v) (R : mRel α S Ln V) (sl0A : mK l0A = 3) (el0A : l0Ax = α l0A) (k : (Φ v S)) : rX11_mostItems F l0Ax S Φ := by
  have el0A := el0A.symm
  subst el0A
  unfold mX11_mostItems at h
  unfold rX11_mostItems
  refine mIf h (by rw [show gEntry_kind S (α l0A) = V.fI l0A 0 from (mg_I (i := l0A) R (mO3 sl0A) rfl 0)]) (fun c1 h => ?_) (fun c1 h => ?_)
  · cases h
    rw [show gEntry_size S (α l0A) = V.fI l0A 1 from (mg_I (i := l0A) R (mO3 sl0A) rfl 1)]
    exact k
  · refine mIf h (by rw [show gEntry_kind S (α l0A) = V.fI l0A 0 from (mg_I (i := l0A) R (mO3 sl0A) rfl 0)]) (fun c2 h => ?_) (fun c2 h => ?_)
    · cases h
      rw [show gEntry_size S (α l0A) = V.fI l0A 1 from (mg_I (i := l0A) R (mO3 sl0A) rfl 1)]
      exact k
    · refine mGd h (by rw [show gEntry_kind S (α l0A) = V.fI l0A 0 from (mg_I (i := l0A) R (mO3 sl0A) rfl 0)]) (fun c3 h => ?_)
      cases h
      rw [show gEntry_kind S (α l0A) = V.fI l0A 0 from (mg_I (i := l0A) R (mO3 sl0A) rfl 0)]
      exact k
def mX11_entryAt (F : Nat) (Ln : Nat → Nat) (l1I : Int32) (V : mV) : Option ((String ⊕ Nat) × (Nat → Nat) × mV) :=
  (if l1I < 0 then (mTh Ln "java/lang/IndexOutOfBoundsException" V) else (if l1I < (V.fI 0 2) then (if l1I < 0 ∨ 12 ≤ (l1I).toNatClampNeg then none else some ((.inr (256 + 8 * (l1I).toNatClampNeg)), Ln, V)) else (mTh Ln "java/lang/IndexOutOfBoundsException" V)))
set_option maxHeartbeats 4000000 in
set_option maxRecDepth 100000 in
theorem MX11_entryAt {F : Nat} {Ln Ln1 : Nat → Nat} {V V1 : mV} {v : (String ⊕ Nat)} {l1I : Int32} (h : mX11_entryAt F Ln l1I V = some (v, Ln1, V1)) : mP Ln1 ≤ mP Ln := by
  unfold mX11_entryAt at h
  rcases mIf_some h with ⟨_, h⟩ | ⟨_, h⟩
  · obtain ⟨rfl, rfl, rfl, hth⟩ := mTh_some h
    omega
  · rcases mIf_some h with ⟨_, h⟩ | ⟨_, h⟩
    · obtain ⟨_, h⟩ := mGd_some h
      cases h
      exact Nat.le_refl _
    · obtain ⟨rfl, rfl, rfl, hth⟩ := mTh_some h
      omega
set_option maxHeartbeats 4000000 in
set_option maxRecDepth 100000 in
theorem LX11_entryAt {α : Nat → Nat} {F : Nat} {S : wPS} {Ln Ln1 : Nat → Nat} {V V1 : mV} {v : (String ⊕ Nat)} {Φ : (Nat → wPS → Prop)} {Ψ : String → wPS → Prop} {l0Ax : Nat} {l1Ix l1I : Int32} {k0 n0 : Nat} (h : mX11_entryAt F Ln l1I V = some (v, Ln1, V1)) (R : mRel α S Ln V) (el0A : l0Ax = α 0) (el1I : l1Ix = l1I) (hk : (mP Ln - mP Ln1) / 16 ≤ k0) (hn : mP Ln - mP Ln1 ≤ n0) (k : (∀ S1, mRel α S1 Ln1 V1 → mFr α S S1 → mOutA α Φ Ψ v S1)) : rX11_entryAt F k0 n0 l0Ax l1Ix S Φ Ψ := by
  have el0A := el0A.symm
  subst el0A
  have el1I := el1I.symm
  subst el1I
  unfold mX11_entryAt at h
  unfold rX11_entryAt
  refine mIf h Iff.rfl (fun c1 h => ?_) (fun c1 h => ?_)
  · obtain ⟨rfl, rfl, rfl, hth⟩ := mTh_some h
    exact ⟨by omega, by omega, k _ (mRel_th R) mFr.rf⟩
  · refine mIf h (by rw [show gWitnessworks_entryCount S (α 0) = V.fI 0 2 from (mg_I (i := 0) R (by decide) rfl 2)]) (fun c2 h => ?_) (fun c2 h => ?_)
    · refine mGd h (by rw [show S.len (wkAd (gWitnessworks_book S (α 0))) = 12 from (mg_len (i := 10) R (mAr (by decide)) (mg_A (t := 10) R rfl rfl))]) (fun c3 h => ?_)
      obtain ⟨rfl, rfl, rfl⟩ := mRA3 h
      rw [show (wkAd (S.rA (wkAd (gWitnessworks_book S (α 0))) (l1I).toNatClampNeg)) = α (256 + 8 * (l1I).toNatClampNeg) from (mg_RA R (mRA10 (Nat.lt_of_not_le (fun z => c3 (Or.inr z)))) (mg_A (t := 10) R rfl rfl) rfl)]
      exact k _ R mFr.rf (mKA10 (Nat.lt_of_not_le (fun z => c3 (Or.inr z))))
    · obtain ⟨rfl, rfl, rfl, hth⟩ := mTh_some h
      exact ⟨by omega, by omega, k _ (mRel_th R) mFr.rf⟩
theorem LX11_entryAt_E {α : Nat → Nat} {F : Nat} {S : wPS} {Ln Ln1 : Nat → Nat} {V V1 : mV} {e : String} {Φ : (Nat → wPS → Prop)} {Ψ : String → wPS → Prop} {l0Ax : Nat} {l1Ix l1I : Int32} {k0 n0 : Nat} (h : mX11_entryAt F Ln l1I V = some (.inl e, Ln1, V1)) (R : mRel α S Ln V) (el0A : l0Ax = α 0) (el1I : l1Ix = l1I) (hk : (mP Ln - mP Ln1) / 16 ≤ k0) (hn : mP Ln - mP Ln1 ≤ n0) (k : ∀ S1, mRel α S1 Ln1 V1 → mFr α S S1 → Ψ e S1) : rX11_entryAt F k0 n0 l0Ax l1Ix S Φ Ψ := LX11_entryAt h R el0A el1I hk hn k
theorem LX11_entryAt_V {α : Nat → Nat} {F : Nat} {S : wPS} {Ln Ln1 : Nat → Nat} {V V1 : mV} {a : Nat} {Φ : (Nat → wPS → Prop)} {Ψ : String → wPS → Prop} {l0Ax : Nat} {l1Ix l1I : Int32} {k0 n0 : Nat} (h : mX11_entryAt F Ln l1I V = some (.inr a, Ln1, V1)) (R : mRel α S Ln V) (el0A : l0Ax = α 0) (el1I : l1Ix = l1I) (hk : (mP Ln - mP Ln1) / 16 ≤ k0) (hn : mP Ln - mP Ln1 ≤ n0) (k : ∀ S1, mRel α S1 Ln1 V1 → mFr α S S1 → mK a = 3 → Φ (α a) S1) : rX11_entryAt F k0 n0 l0Ax l1Ix S Φ Ψ := LX11_entryAt h R el0A el1I hk hn k
def mX11_testPlace (F : Nat) (Ln : Nat → Nat) (l0I : Int32) (l1I : Int32) (V : mV) : Option ((String ⊕ Unit) × (Nat → Nat) × mV) :=
  (if l0I < 0 then (mTh Ln "java/util/NoSuchElementException" V) else (if l0I < l1I then some ((.inr (())), Ln, V) else (mTh Ln "java/util/NoSuchElementException" V)))
set_option maxHeartbeats 4000000 in
set_option maxRecDepth 100000 in
theorem MX11_testPlace {F : Nat} {Ln Ln1 : Nat → Nat} {V V1 : mV} {v : (String ⊕ Unit)} {l0I : Int32} {l1I : Int32} (h : mX11_testPlace F Ln l0I l1I V = some (v, Ln1, V1)) : mP Ln1 ≤ mP Ln := by
  unfold mX11_testPlace at h
  rcases mIf_some h with ⟨_, h⟩ | ⟨_, h⟩
  · obtain ⟨rfl, rfl, rfl, hth⟩ := mTh_some h
    omega
  · rcases mIf_some h with ⟨_, h⟩ | ⟨_, h⟩
    · cases h
      exact Nat.le_refl _
    · obtain ⟨rfl, rfl, rfl, hth⟩ := mTh_some h
      omega
set_option maxHeartbeats 4000000 in
set_option maxRecDepth 100000 in
theorem LX11_testPlace {α : Nat → Nat} {F : Nat} {S : wPS} {Ln Ln1 : Nat → Nat} {V V1 : mV} {v : (String ⊕ Unit)} {Φ : (Unit → wPS → Prop)} {Ψ : String → wPS → Prop} {l0Ix l0I : Int32} {l1Ix l1I : Int32} {k0 n0 : Nat} (h : mX11_testPlace F Ln l0I l1I V = some (v, Ln1, V1)) (R : mRel α S Ln V) (el0I : l0Ix = l0I) (el1I : l1Ix = l1I) (hk : (mP Ln - mP Ln1) / 16 ≤ k0) (hn : mP Ln - mP Ln1 ≤ n0) (k : (∀ S1, mRel α S1 Ln1 V1 → mFr α S S1 → mOut Φ Ψ v S1)) : rX11_testPlace F k0 n0 l0Ix l1Ix S Φ Ψ := by
  have el0I := el0I.symm
  subst el0I
  have el1I := el1I.symm
  subst el1I
  unfold mX11_testPlace at h
  unfold rX11_testPlace
  refine mIf h Iff.rfl (fun c1 h => ?_) (fun c1 h => ?_)
  · obtain ⟨rfl, rfl, rfl, hth⟩ := mTh_some h
    exact ⟨by omega, by omega, k _ (mRel_th R) mFr.rf⟩
  · refine mIf h Iff.rfl (fun c2 h => ?_) (fun c2 h => ?_)
    · obtain ⟨rfl, rfl, rfl⟩ := mRA3 h
      exact k _ R mFr.rf
    · obtain ⟨rfl, rfl, rfl, hth⟩ := mTh_some h
      exact ⟨by omega, by omega, k _ (mRel_th R) mFr.rf⟩
theorem LX11_testPlace_E {α : Nat → Nat} {F : Nat} {S : wPS} {Ln Ln1 : Nat → Nat} {V V1 : mV} {e : String} {Φ : (Unit → wPS → Prop)} {Ψ : String → wPS → Prop} {l0Ix l0I : Int32} {l1Ix l1I : Int32} {k0 n0 : Nat} (h : mX11_testPlace F Ln l0I l1I V = some (.inl e, Ln1, V1)) (R : mRel α S Ln V) (el0I : l0Ix = l0I) (el1I : l1Ix = l1I) (hk : (mP Ln - mP Ln1) / 16 ≤ k0) (hn : mP Ln - mP Ln1 ≤ n0) (k : ∀ S1, mRel α S1 Ln1 V1 → mFr α S S1 → Ψ e S1) : rX11_testPlace F k0 n0 l0Ix l1Ix S Φ Ψ := LX11_testPlace h R el0I el1I hk hn k
theorem LX11_testPlace_V {α : Nat → Nat} {F : Nat} {S : wPS} {Ln Ln1 : Nat → Nat} {V V1 : mV} {a : Unit} {Φ : (Unit → wPS → Prop)} {Ψ : String → wPS → Prop} {l0Ix l0I : Int32} {l1Ix l1I : Int32} {k0 n0 : Nat} (h : mX11_testPlace F Ln l0I l1I V = some (.inr a, Ln1, V1)) (R : mRel α S Ln V) (el0I : l0Ix = l0I) (el1I : l1Ix = l1I) (hk : (mP Ln - mP Ln1) / 16 ≤ k0) (hn : mP Ln - mP Ln1 ≤ n0) (k : ∀ S1, mRel α S1 Ln1 V1 → mFr α S S1 → Φ a S1) : rX11_testPlace F k0 n0 l0Ix l1Ix S Φ Ψ := LX11_testPlace h R el0I el1I hk hn k
def mX11_testRange (F : Nat) (Ln : Nat → Nat) (l0I : Int32) (l1I : Int32) (l2I : Int32) (V : mV) : Option ((String ⊕ Unit) × (Nat → Nat) × mV) :=
  (if l0I < l1I then (mTh Ln "java/lang/IllegalArgumentException" V) else (if l0I ≤ l2I then some ((.inr (())), Ln, V) else (mTh Ln "java/lang/IllegalArgumentException" V)))
set_option maxHeartbeats 4000000 in
set_option maxRecDepth 100000 in
theorem MX11_testRange {F : Nat} {Ln Ln1 : Nat → Nat} {V V1 : mV} {v : (String ⊕ Unit)} {l0I : Int32} {l1I : Int32} {l2I : Int32} (h : mX11_testRange F Ln l0I l1I l2I V = some (v, Ln1, V1)) : mP Ln1 ≤ mP Ln := by
  unfold mX11_testRange at h
  rcases mIf_some h with ⟨_, h⟩ | ⟨_, h⟩
  · obtain ⟨rfl, rfl, rfl, hth⟩ := mTh_some h
    omega
  · rcases mIf_some h with ⟨_, h⟩ | ⟨_, h⟩
    · cases h
      exact Nat.le_refl _
    · obtain ⟨rfl, rfl, rfl, hth⟩ := mTh_some h
      omega
set_option maxHeartbeats 4000000 in
set_option maxRecDepth 100000 in
theorem LX11_testRange {α : Nat → Nat} {F : Nat} {S : wPS} {Ln Ln1 : Nat → Nat} {V V1 : mV} {v : (String ⊕ Unit)} {Φ : (Unit → wPS → Prop)} {Ψ : String → wPS → Prop} {l0Ix l0I : Int32} {l1Ix l1I : Int32} {l2Ix l2I : Int32} {k0 n0 : Nat} (h : mX11_testRange F Ln l0I l1I l2I V = some (v, Ln1, V1)) (R : mRel α S Ln V) (el0I : l0Ix = l0I) (el1I : l1Ix = l1I) (el2I : l2Ix = l2I) (hk : (mP Ln - mP Ln1) / 16 ≤ k0) (hn : mP Ln - mP Ln1 ≤ n0) (k : (∀ S1, mRel α S1 Ln1 V1 → mFr α S S1 → mOut Φ Ψ v S1)) : rX11_testRange F k0 n0 l0Ix l1Ix l2Ix S Φ Ψ := by
  have el0I := el0I.symm
  subst el0I
  have el1I := el1I.symm
  subst el1I
  have el2I := el2I.symm
  subst el2I
  unfold mX11_testRange at h
  unfold rX11_testRange
  refine mIf h Iff.rfl (fun c1 h => ?_) (fun c1 h => ?_)
  · obtain ⟨rfl, rfl, rfl, hth⟩ := mTh_some h
    exact ⟨by omega, by omega, k _ (mRel_th R) mFr.rf⟩
  · refine mIf h Iff.rfl (fun c2 h => ?_) (fun c2 h => ?_)
    · obtain ⟨rfl, rfl, rfl⟩ := mRA3 h
      exact k _ R mFr.rf
    · obtain ⟨rfl, rfl, rfl, hth⟩ := mTh_some h
      exact ⟨by omega, by omega, k _ (mRel_th R) mFr.rf⟩
theorem LX11_testRange_E {α : Nat → Nat} {F : Nat} {S : wPS} {Ln Ln1 : Nat → Nat} {V V1 : mV} {e : String} {Φ : (Unit → wPS → Prop)} {Ψ : String → wPS → Prop} {l0Ix l0I : Int32} {l1Ix l1I : Int32} {l2Ix l2I : Int32} {k0 n0 : Nat} (h : mX11_testRange F Ln l0I l1I l2I V = some (.inl e, Ln1, V1)) (R : mRel α S Ln V) (el0I : l0Ix = l0I) (el1I : l1Ix = l1I) (el2I : l2Ix = l2I) (hk : (mP Ln - mP Ln1) / 16 ≤ k0) (hn : mP Ln - mP Ln1 ≤ n0) (k : ∀ S1, mRel α S1 Ln1 V1 → mFr α S S1 → Ψ e S1) : rX11_testRange F k0 n0 l0Ix l1Ix l2Ix S Φ Ψ := LX11_testRange h R el0I el1I el2I hk hn k
theorem LX11_testRange_V {α : Nat → Nat} {F : Nat} {S : wPS} {Ln Ln1 : Nat → Nat} {V V1 : mV} {a : Unit} {Φ : (Unit → wPS → Prop)} {Ψ : String → wPS → Prop} {l0Ix l0I : Int32} {l1Ix l1I : Int32} {l2Ix l2I : Int32} {k0 n0 : Nat} (h : mX11_testRange F Ln l0I l1I l2I V = some (.inr a, Ln1, V1)) (R : mRel α S Ln V) (el0I : l0Ix = l0I) (el1I : l1Ix = l1I) (el2I : l2Ix = l2I) (hk : (mP Ln - mP Ln1) / 16 ≤ k0) (hn : mP Ln - mP Ln1 ≤ n0) (k : ∀ S1, mRel α S1 Ln1 V1 → mFr α S S1 → Φ a S1) : rX11_testRange F k0 n0 l0Ix l1Ix l2Ix S Φ Ψ := LX11_testRange h R el0I el1I el2I hk hn k
def mX11_tellNumbers (F : Nat) (l1I : Int32) (l2I : Int32) (l3I : Int32) (l4I : Int32) (l5I : Int32) (V : mV) : Option (Unit × mV) :=
  (if (0 : Int32) < 0 ∨ 5 ≤ ((0 : Int32)).toNatClampNeg then none else (mLt (mI V 12 ((0 : Int32)) (l1I)) fun V2 => (if (1 : Int32) < 0 ∨ 5 ≤ ((1 : Int32)).toNatClampNeg then none else (mLt (mI V2 12 ((1 : Int32)) (l2I)) fun V4 => (if (2 : Int32) < 0 ∨ 5 ≤ ((2 : Int32)).toNatClampNeg then none else (mLt (mI V4 12 ((2 : Int32)) (l3I)) fun V6 => (if (3 : Int32) < 0 ∨ 5 ≤ ((3 : Int32)).toNatClampNeg then none else (mLt (mI V6 12 ((3 : Int32)) (l4I)) fun V8 => (if (4 : Int32) < 0 ∨ 5 ≤ ((4 : Int32)).toNatClampNeg then none else (mLt (mI V8 12 ((4 : Int32)) (l5I)) fun V10 => some ((), V10)))))))))))
set_option maxHeartbeats 4000000 in
set_option maxRecDepth 100000 in
theorem LX11_tellNumbers {α : Nat → Nat} {F : Nat} {S : wPS} {Ln : Nat → Nat} {V V1 : mV} {v : Unit} {Φ : (Unit → wPS → Prop)} {l0Ax : Nat} {l1Ix l1I : Int32} {l2Ix l2I : Int32} {l3Ix l3I : Int32} {l4Ix l4I : Int32} {l5Ix l5I : Int32} (h : mX11_tellNumbers F l1I l2I l3I l4I l5I V = some (v, V1)) (R : mRel α S Ln V) (el0A : l0Ax = α 0) (el1I : l1Ix = l1I) (el2I : l2Ix = l2I) (el3I : l3Ix = l3I) (el4I : l4Ix = l4I) (el5I : l5Ix = l5I) (k : (∀ S1, mRel α S1 Ln V1 → mFr α S S1 → Φ v S1)) : rX11_tellNumbers F l0Ax l1Ix l2Ix l3Ix l4Ix l5Ix S Φ := by
  have el0A := el0A.symm
  subst el0A
  have el1I := el1I.symm
  subst el1I
  have el2I := el2I.symm
  subst el2I
  have el3I := el3I.symm
  subst el3I
  have el4I := el4I.symm
  subst el4I
  have el5I := el5I.symm
  subst el5I
  unfold mX11_tellNumbers at h
  unfold rX11_tellNumbers
  refine mGd h (by rw [show S.len (wkAd (gWitnessworks_told S (α 0))) = 5 from (mg_len (i := 12) R (mA13 rfl) (mg_A (t := 12) R rfl rfl))]) (fun c1 h => ?_)
  obtain ⟨V2, eV2, h⟩ := mLt_some h
  refine mU_I eV2 R (mA13 rfl) (mg_A (t := 12) R rfl rfl) rfl rfl (fun S2 R2 F2 => ?_)
  refine mGd h (by rw [show S2.len (wkAd (gWitnessworks_told S2 (α 0))) = 5 from (mg_len (i := 12) R2 (mA13 rfl) (mg_A (t := 12) R2 rfl rfl))]) (fun c2 h => ?_)
  obtain ⟨V4, eV4, h⟩ := mLt_some h
  refine mU_I eV4 R2 (mA13 rfl) (mg_A (t := 12) R2 rfl rfl) rfl rfl (fun S4 R4 F4 => ?_)
  refine mGd h (by rw [show S4.len (wkAd (gWitnessworks_told S4 (α 0))) = 5 from (mg_len (i := 12) R4 (mA13 rfl) (mg_A (t := 12) R4 rfl rfl))]) (fun c3 h => ?_)
  obtain ⟨V6, eV6, h⟩ := mLt_some h
  refine mU_I eV6 R4 (mA13 rfl) (mg_A (t := 12) R4 rfl rfl) rfl rfl (fun S6 R6 F6 => ?_)
  refine mGd h (by rw [show S6.len (wkAd (gWitnessworks_told S6 (α 0))) = 5 from (mg_len (i := 12) R6 (mA13 rfl) (mg_A (t := 12) R6 rfl rfl))]) (fun c4 h => ?_)
  obtain ⟨V8, eV8, h⟩ := mLt_some h
  refine mU_I eV8 R6 (mA13 rfl) (mg_A (t := 12) R6 rfl rfl) rfl rfl (fun S8 R8 F8 => ?_)
  refine mGd h (by rw [show S8.len (wkAd (gWitnessworks_told S8 (α 0))) = 5 from (mg_len (i := 12) R8 (mA13 rfl) (mg_A (t := 12) R8 rfl rfl))]) (fun c5 h => ?_)
  obtain ⟨V10, eV10, h⟩ := mLt_some h
  refine mU_I eV10 R8 (mA13 rfl) (mg_A (t := 12) R8 rfl rfl) rfl rfl (fun S10 R10 F10 => ?_)
  obtain ⟨rfl, rfl⟩ := mRW h
  exact k _ R10 (F2.tr (F4.tr (F6.tr (F8.tr F10))))
def mX11_leadsTo_b0 (F : Nat) (rec : Nat → Int32 → Int32 → Int32 → mV → Option Int32) (l2I : Int32) (l3I : Int32) (l4I : Int32) (V : mV) : Option Int32 :=
  (if (12 : Int32) ≤ l4I then some ((0 : Int32)) else (if l3I < 0 then some ((0 : Int32)) else (if l3I = l2I then some ((1 : Int32)) else (if l3I < 0 ∨ 12 ≤ (l3I).toNatClampNeg then none else (mLt (V.fI (256 + 8 * (l3I).toNatClampNeg) 3) fun x6 => (mLt (l4I + (1 : Int32)) fun x7 => (rec 0 (l2I) (x6) (x7) V)))))))
def mX11_leadsTo_go (F : Nat) : Nat → Nat → Int32 → Int32 → Int32 → mV → Option Int32
  | 0, _, _, _, _, _ => none
  | k' + 1, lab, l2I, l3I, l4I, V => if lab = 0 then mX11_leadsTo_b0 F (mX11_leadsTo_go F k') l2I l3I l4I V else none
def mX11_leadsTo_s (F : Nat) (rec : Nat → Int32 → Int32 → Int32 → mV → Option Int32) (l1I : Int32) (l2I : Int32) (V : mV) : Option Int32 :=
  (rec 0 (l2I) (l1I) ((0 : Int32)) V)
def mX11_leadsTo (F : Nat) (l1I : Int32) (l2I : Int32) (V : mV) : Option Int32 := mX11_leadsTo_s F (mX11_leadsTo_go F F) l1I l2I V
set_option maxHeartbeats 4000000 in
set_option maxRecDepth 100000 in
theorem LX11_leadsTo_go {α : Nat → Nat} {F : Nat} {Ln : Nat → Nat} {v : Int32} {Φ : (Int32 → wPS → Prop)} : ∀ k' : Nat, (∀ (l2I : Int32) (l3I : Int32) (l4I : Int32) (S : wPS) (V : mV) , mRel α S Ln V → mX11_leadsTo_go F k' 0 l2I l3I l4I V = some v → (Φ v S) → rX11_leadsTo_go F k' 0 (α 0) l2I l3I l4I S Φ) := by
  intro k'
  induction k' with
  | zero => exact (fun _ _ _ _ _ _ h _ => by cases h)
  | succ k' ih =>
    intro l2I l3I l4I S V R h k
    rw [mX11_leadsTo_go, if_pos rfl] at h
    rw [rX11_leadsTo_go, if_pos rfl]
    unfold mX11_leadsTo_b0 at h
    unfold rX11_leadsTo_b0
    refine mIf h Iff.rfl (fun c1 h => ?_) (fun c1 h => ?_)
    · cases h
      exact k
    · refine mIf h Iff.rfl (fun c2 h => ?_) (fun c2 h => ?_)
      · cases h
        exact k
      · refine mIf h Iff.rfl (fun c3 h => ?_) (fun c3 h => ?_)
        · cases h
          exact k
        · refine mGd h (by rw [show S.len (wkAd (gWitnessworks_book S (α 0))) = 12 from (mg_len (i := 10) R (mAr (by decide)) (mg_A (t := 10) R rfl rfl))]) (fun c4 h => ?_)
          refine mLet h (by rw [show gEntry_leaning S (wkAd (S.rA (wkAd (gWitnessworks_book S (α 0))) (l3I).toNatClampNeg)) = V.fI (256 + 8 * (l3I).toNatClampNeg) 3 from (mg_I (i := (256 + 8 * (l3I).toNatClampNeg)) R (mO3 (mKA10 (Nat.lt_of_not_le (fun z => c4 (Or.inr z))))) (mg_RA R (mRA10 (Nat.lt_of_not_le (fun z => c4 (Or.inr z)))) (mg_A (t := 10) R rfl rfl) rfl) 3)]) (fun x6 ex6 h => ?_)
          refine mLet h rfl (fun x7 ex7 h => ?_)
          exact ih _ _ _ _ _ R h k
set_option maxHeartbeats 4000000 in
set_option maxRecDepth 100000 in
theorem LX11_leadsTo {α : Nat → Nat} {F : Nat} {S : wPS} {Ln : Nat → Nat} {V : mV} {v : Int32} {Φ : (Int32 → wPS → Prop)} {l0Ax : Nat} {l1Ix l1I : Int32} {l2Ix l2I : Int32} (h : mX11_leadsTo F l1I l2I V = some v) (R : mRel α S Ln V) (el0A : l0Ax = α 0) (el1I : l1Ix = l1I) (el2I : l2Ix = l2I) (k : (Φ v S)) : rX11_leadsTo F l0Ax l1Ix l2Ix S Φ := by
  have el0A := el0A.symm
  subst el0A
  have el1I := el1I.symm
  subst el1I
  have el2I := el2I.symm
  subst el2I
  have ih := LX11_leadsTo_go  (α := α) (F := F) (v := v) (Ln := Ln) (Φ := Φ) F
  unfold mX11_leadsTo mX11_leadsTo_s at h
  unfold rX11_leadsTo rX11_leadsTo_s
  exact ih _ _ _ _ _ R h k
def mX11_remember_b0 (F : Nat) (rec : Nat → Int32 → Int32 → mV → Option (Unit × mV)) (l1I : Int32) (l2I : Int32) (V : mV) : Option (Unit × mV) :=
  (mLt (((V.fI 0 9) + (V.fI 0 10)) - ((V.fI 0 9) + (V.fI 0 10)) / (24 : Int32) * (24 : Int32)) fun x1 => (if x1 < 0 ∨ 24 ≤ (x1).toNatClampNeg then none else (if ¬ (((l1I : Int32).toUInt32 % 65536).toInt32 = l1I) then none else (mLt (mI V 14 (x1) (l1I)) fun V3 => (if x1 < 0 ∨ 24 ≤ (x1).toNatClampNeg then none else (mLt (mI V3 15 (x1) (l2I)) fun V6 => (if x1 < 0 ∨ 24 ≤ (x1).toNatClampNeg then none else (if l2I < 0 ∨ 12 ≤ (l2I).toNatClampNeg then none else (mBW (mX3_copyQuestion F (352 + 8 * (x1).toNatClampNeg) (256 + 8 * (l2I).toNatClampNeg) V6) fun v11 V12 => (mLt (mF V12 0 10 (((V12.fI 0 10) + (1 : Int32)))) fun V16 => some ((), V16)))))))))))
def mX11_remember_go (F : Nat) : Nat → Nat → Int32 → Int32 → mV → Option (Unit × mV)
  | 0, _, _, _, _ => none
  | k' + 1, lab, l1I, l2I, V => if lab = 0 then mX11_remember_b0 F (mX11_remember_go F k') l1I l2I V else none
def mX11_remember_s (F : Nat) (rec : Nat → Int32 → Int32 → mV → Option (Unit × mV)) (l1I : Int32) (l2I : Int32) (V : mV) : Option (Unit × mV) :=
  (if (V.fI 0 10) = (24 : Int32) then (mLt (mF V 0 9 ((((V.fI 0 9) + (1 : Int32)) - ((V.fI 0 9) + (1 : Int32)) / (24 : Int32) * (24 : Int32)))) fun V18 => (mLt (mF V18 0 10 (((V18.fI 0 10) - (1 : Int32)))) fun V19 => (rec 0 (l1I) (l2I) V19))) else (rec 0 (l1I) (l2I) V))
def mX11_remember (F : Nat) (l1I : Int32) (l2I : Int32) (V : mV) : Option (Unit × mV) := mX11_remember_s F (mX11_remember_go F F) l1I l2I V
set_option maxHeartbeats 4000000 in
set_option maxRecDepth 100000 in
theorem LX11_remember_go {α : Nat → Nat} {F : Nat} {Ln : Nat → Nat} {v : Unit} {V1 : mV} {Φ : (Unit → wPS → Prop)} : ∀ k' : Nat, (∀ (l1I : Int32) (l2I : Int32) (S : wPS) (V : mV) , mRel α S Ln V → mX11_remember_go F k' 0 l1I l2I V = some (v, V1) → (∀ S1, mRel α S1 Ln V1 → mFr α S S1 → Φ v S1) → rX11_remember_go F k' 0 (α 0) l1I l2I S Φ) := by
  intro k'
  induction k' with
  | zero => exact (fun _ _ _ _ _ h _ => by cases h)
  | succ k' ih =>
    intro l1I l2I S V R h k
    rw [mX11_remember_go, if_pos rfl] at h
    rw [rX11_remember_go, if_pos rfl]
    unfold mX11_remember_b0 at h
    unfold rX11_remember_b0
    refine mLet h (by rw [show gWitnessworks_firstChange S (α 0) = V.fI 0 9 from (mg_I (i := 0) R (by decide) rfl 9), show gWitnessworks_changeCount S (α 0) = V.fI 0 10 from (mg_I (i := 0) R (by decide) rfl 10)]) (fun x1 ex1 h => ?_)
    refine mGd h (by rw [show S.len (wkAd (gWitnessworks_changeLetters S (α 0))) = 24 from (mg_len (i := 14) R (mA12 rfl) (mg_A (t := 14) R rfl rfl))]) (fun c1 h => ?_)
    refine mGp h Iff.rfl (fun c2 h => ?_)
    obtain ⟨V3, eV3, h⟩ := mLt_some h
    refine mU_I eV3 R (mA12 rfl) (mg_A (t := 14) R rfl rfl) rfl rfl (fun S3 R3 F3 => ?_)
    refine mGd h (by rw [show S3.len (wkAd (gWitnessworks_changedEntries S3 (α 0))) = 24 from (mg_len (i := 15) R3 (mA13 rfl) (mg_A (t := 15) R3 rfl rfl))]) (fun c3 h => ?_)
    obtain ⟨V6, eV6, h⟩ := mLt_some h
    refine mU_I eV6 R3 (mA13 rfl) (mg_A (t := 15) R3 rfl rfl) rfl rfl (fun S6 R6 F6 => ?_)
    refine mGd h (by rw [show S6.len (wkAd (gWitnessworks_before S6 (α 0))) = 24 from (mg_len (i := 13) R6 (mAr (by decide)) (mg_A (t := 13) R6 rfl rfl))]) (fun c4 h => ?_)
    refine mGd h (by rw [show S6.len (wkAd (gWitnessworks_book S6 (α 0))) = 12 from (mg_len (i := 10) R6 (mAr (by decide)) (mg_A (t := 10) R6 rfl rfl))]) (fun c5 h => ?_)
    obtain ⟨v11, V12, hv11, h⟩ := mBW_some h
    refine LX3_copyQuestion hv11 R6 (mKA13 (Nat.lt_of_not_le (fun z => c4 (Or.inr z)))) (mKA10 (Nat.lt_of_not_le (fun z => c5 (Or.inr z)))) (mg_RA R6 (mRA13 (Nat.lt_of_not_le (fun z => c4 (Or.inr z)))) (mg_A (t := 13) R6 rfl rfl) rfl) (mg_RA R6 (mRA10 (Nat.lt_of_not_le (fun z => c5 (Or.inr z)))) (mg_A (t := 10) R6 rfl rfl) rfl) (fun S12 R12 F12 => ?_)
    obtain ⟨V16, eV16, h⟩ := mLt_some h
    refine mU_F eV16 R12 (by decide) rfl (by rw [show gWitnessworks_changeCount S12 (α 0) = V12.fI 0 10 from (mg_I (i := 0) R12 (by decide) rfl 10)]) (fun S16 R16 F16 => ?_)
    obtain ⟨rfl, rfl⟩ := mRW h
    exact k _ R16 (F3.tr (F6.tr (F12.tr F16)))
set_option maxHeartbeats 4000000 in
set_option maxRecDepth 100000 in
theorem LX11_remember {α : Nat → Nat} {F : Nat} {S : wPS} {Ln : Nat → Nat} {V V1 : mV} {v : Unit} {Φ : (Unit → wPS → Prop)} {l0Ax : Nat} {l1Ix l1I : Int32} {l2Ix l2I : Int32} (h : mX11_remember F l1I l2I V = some (v, V1)) (R : mRel α S Ln V) (el0A : l0Ax = α 0) (el1I : l1Ix = l1I) (el2I : l2Ix = l2I) (k : (∀ S1, mRel α S1 Ln V1 → mFr α S S1 → Φ v S1)) : rX11_remember F l0Ax l1Ix l2Ix S Φ := by
  have el0A := el0A.symm
  subst el0A
  have el1I := el1I.symm
  subst el1I
  have el2I := el2I.symm
  subst el2I
  have ih := LX11_remember_go  (α := α) (F := F) (v := v) (Ln := Ln) (Φ := Φ) (V1 := V1) F
  unfold mX11_remember mX11_remember_s at h
  unfold rX11_remember rX11_remember_s
  refine mIf h (by rw [show gWitnessworks_changeCount S (α 0) = V.fI 0 10 from (mg_I (i := 0) R (by decide) rfl 10)]) (fun c6 h => ?_) (fun c6 h => ?_)
  · obtain ⟨V18, eV18, h⟩ := mLt_some h
    refine mU_F eV18 R (by decide) rfl (by rw [show gWitnessworks_firstChange S (α 0) = V.fI 0 9 from (mg_I (i := 0) R (by decide) rfl 9)]) (fun S18 R18 F18 => ?_)
    obtain ⟨V19, eV19, h⟩ := mLt_some h
    refine mU_F eV19 R18 (by decide) rfl (by rw [show gWitnessworks_changeCount S18 (α 0) = V18.fI 0 10 from (mg_I (i := 0) R18 (by decide) rfl 10)]) (fun S19 R19 F19 => ?_)
    exact ih _ _ _ _ R19 h (fun S1 R1 F1 => k S1 R1 (F18.tr (F19.tr F1)))
  · exact ih _ _ _ _ R h (fun S1 R1 F1 => k S1 R1 F1)
def mX11_removeClaim_b0 (F : Nat) (rec : Nat → Nat → Int32 → mV → Option (Unit × mV)) (l2A : Nat) (l3I : Int32) (V : mV) : Option (Unit × mV) :=
  (if ((V.fI 0 15) - (1 : Int32)) ≤ l3I then (mLt (mF V 0 15 (((V.fI 0 15) - (1 : Int32)))) fun V2 => (if (V2.fI 0 15) < 0 ∨ 16 ≤ ((V2.fI 0 15)).toNatClampNeg then none else (mLt (mCl V2 ((V2.fI 0 15)).toNatClampNeg l2A) fun V4 => some ((), V4)))) else (if (l3I + (1 : Int32)) < 0 ∨ 16 ≤ ((l3I + (1 : Int32))).toNatClampNeg then none else (if l3I < 0 ∨ 16 ≤ (l3I).toNatClampNeg then none else (mLt (mCl V (l3I).toNatClampNeg (V.cl ((l3I + (1 : Int32))).toNatClampNeg)) fun V8 => (mLt (l3I + (1 : Int32)) fun x9 => (rec 0 l2A (x9) V8))))))
def mX11_removeClaim_go (F : Nat) : Nat → Nat → Nat → Int32 → mV → Option (Unit × mV)
  | 0, _, _, _, _ => none
  | k' + 1, lab, l2A, l3I, V => if lab = 0 then mX11_removeClaim_b0 F (mX11_removeClaim_go F k') l2A l3I V else none
def mX11_removeClaim_s (F : Nat) (rec : Nat → Nat → Int32 → mV → Option (Unit × mV)) (l1I : Int32) (V : mV) : Option (Unit × mV) :=
  (if l1I < 0 ∨ 16 ≤ (l1I).toNatClampNeg then none else (rec 0 (V.cl (l1I).toNatClampNeg) (l1I) V))
def mX11_removeClaim (F : Nat) (l1I : Int32) (V : mV) : Option (Unit × mV) := mX11_removeClaim_s F (mX11_removeClaim_go F F) l1I V
set_option maxHeartbeats 4000000 in
set_option maxRecDepth 100000 in
theorem LX11_removeClaim_go {α : Nat → Nat} {F : Nat} {Ln : Nat → Nat} {v : Unit} {V1 : mV} {Φ : (Unit → wPS → Prop)} : ∀ k' : Nat, (∀ (l2A : Nat) (l3I : Int32) (S : wPS) (V : mV) , mRel α S Ln V → mK l2A = 0 → mX11_removeClaim_go F k' 0 l2A l3I V = some (v, V1) → (∀ S1, mRel α S1 Ln V1 → mFr α S S1 → Φ v S1) → rX11_removeClaim_go F k' 0 (α 0) (α l2A) l3I S Φ) := by
  intro k'
  induction k' with
  | zero => exact (fun _ _ _ _ _ _ h _ => by cases h)
  | succ k' ih =>
    intro l2A l3I S V R sl2A h k
    rw [mX11_removeClaim_go, if_pos rfl] at h
    rw [rX11_removeClaim_go, if_pos rfl]
    unfold mX11_removeClaim_b0 at h
    unfold rX11_removeClaim_b0
    refine mIf h (by rw [show gWitnessworks_claimCount S (α 0) = V.fI 0 15 from (mg_I (i := 0) R (by decide) rfl 15)]) (fun c1 h => ?_) (fun c1 h => ?_)
    · obtain ⟨V2, eV2, h⟩ := mLt_some h
      refine mU_F eV2 R (by decide) rfl (by rw [show gWitnessworks_claimCount S (α 0) = V.fI 0 15 from (mg_I (i := 0) R (by decide) rfl 15)]) (fun S2 R2 F2 => ?_)
      refine mGd h (by rw [show S2.len (wkAd (gWitnessworks_claims S2 (α 0))) = 16 from (mg_len (i := 17) R2 (mAr (by decide)) (mg_A (t := 17) R2 rfl rfl)), show gWitnessworks_claimCount S2 (α 0) = V2.fI 0 15 from (mg_I (i := 0) R2 (by decide) rfl 15)]) (fun c2 h => ?_)
      obtain ⟨V4, eV4, h⟩ := mLt_some h
      refine mU_C eV4 R2 sl2A (mg_A (t := 17) R2 rfl rfl) (by rw [show gWitnessworks_claimCount S2 (α 0) = V2.fI 0 15 from (mg_I (i := 0) R2 (by decide) rfl 15)]) rfl (fun S4 R4 F4 => ?_)
      obtain ⟨rfl, rfl⟩ := mRW h
      exact k _ R4 (F2.tr F4)
    · refine mGd h (by rw [show S.len (wkAd (gWitnessworks_claims S (α 0))) = 16 from (mg_len (i := 17) R (mAr (by decide)) (mg_A (t := 17) R rfl rfl))]) (fun c3 h => ?_)
      refine mGd h (by rw [show S.len (wkAd (gWitnessworks_claims S (α 0))) = 16 from (mg_len (i := 17) R (mAr (by decide)) (mg_A (t := 17) R rfl rfl))]) (fun c4 h => ?_)
      obtain ⟨V8, eV8, h⟩ := mLt_some h
      refine mU_C eV8 R (mg_CLk R (Nat.lt_of_not_le (fun z => c3 (Or.inr z)))) (mg_A (t := 17) R rfl rfl) rfl (mg_CL R (Nat.lt_of_not_le (fun z => c3 (Or.inr z))) (mg_A (t := 17) R rfl rfl) rfl) (fun S8 R8 F8 => ?_)
      refine mLet h rfl (fun x9 ex9 h => ?_)
      exact ih _ _ _ _ R8 sl2A h (fun S1 R1 F1 => k S1 R1 (F8.tr F1))
set_option maxHeartbeats 4000000 in
set_option maxRecDepth 100000 in
theorem LX11_removeClaim {α : Nat → Nat} {F : Nat} {S : wPS} {Ln : Nat → Nat} {V V1 : mV} {v : Unit} {Φ : (Unit → wPS → Prop)} {l0Ax : Nat} {l1Ix l1I : Int32} (h : mX11_removeClaim F l1I V = some (v, V1)) (R : mRel α S Ln V) (el0A : l0Ax = α 0) (el1I : l1Ix = l1I) (k : (∀ S1, mRel α S1 Ln V1 → mFr α S S1 → Φ v S1)) : rX11_removeClaim F l0Ax l1Ix S Φ := by
  have el0A := el0A.symm
  subst el0A
  have el1I := el1I.symm
  subst el1I
  have ih := LX11_removeClaim_go  (α := α) (F := F) (v := v) (Ln := Ln) (Φ := Φ) (V1 := V1) F
  unfold mX11_removeClaim mX11_removeClaim_s at h
  unfold rX11_removeClaim rX11_removeClaim_s
  refine mGd h (by rw [show S.len (wkAd (gWitnessworks_claims S (α 0))) = 16 from (mg_len (i := 17) R (mAr (by decide)) (mg_A (t := 17) R rfl rfl))]) (fun c5 h => ?_)
  rw [show (wkAd (S.rA (wkAd (gWitnessworks_claims S (α 0))) (l1I).toNatClampNeg)) = α (V.cl (l1I).toNatClampNeg) from (mg_CL R (Nat.lt_of_not_le (fun z => c5 (Or.inr z))) (mg_A (t := 17) R rfl rfl) rfl)]
  exact ih _ _ _ _ R (mg_CLk R (Nat.lt_of_not_le (fun z => c5 (Or.inr z)))) h (fun S1 R1 F1 => k S1 R1 F1)
def mX11_has (F : Nat) (l0I : Int32) (l1I : Int32) : Option Int32 :=
  (if ((l0I >>> (l1I &&& 31)) &&& (1 : Int32)) = 0 then some ((0 : Int32)) else some ((1 : Int32)))
set_option maxHeartbeats 4000000 in
set_option maxRecDepth 100000 in
theorem LX11_has {F : Nat} {S : wPS} {v : Int32} {Φ : (Int32 → wPS → Prop)} {l0Ix l0I : Int32} {l1Ix l1I : Int32} (h : mX11_has F l0I l1I  = some v) (el0I : l0Ix = l0I) (el1I : l1Ix = l1I) (k : (Φ v S)) : rX11_has F l0Ix l1Ix S Φ := by
  have el0I := el0I.symm
  subst el0I
  have el1I := el1I.symm
  subst el1I
  unfold mX11_has at h
  unfold rX11_has
  refine mIf h Iff.rfl (fun c1 h => ?_) (fun c1 h => ?_)
  · cases h
    exact k
  · cases h
    exact k
def mX11_lowest_b0 (F : Nat) (rec : Nat → Int32 → Int32 → Option Int32) (l0I : Int32) (l1I : Int32) : Option Int32 :=
  (if (31 : Int32) ≤ l1I then some ((-1 : Int32)) else (mBN (mX11_has F (l0I) (l1I)) fun v2 => (if v2 = 0 then (mLt (l1I + (1 : Int32)) fun x8 => (rec 0 (l0I) (x8))) else some (l1I))))
def mX11_lowest_go (F : Nat) : Nat → Nat → Int32 → Int32 → Option Int32
  | 0, _, _, _ => none
  | k' + 1, lab, l0I, l1I => if lab = 0 then mX11_lowest_b0 F (mX11_lowest_go F k') l0I l1I  else none
def mX11_lowest_s (F : Nat) (rec : Nat → Int32 → Int32 → Option Int32) (l0I : Int32) : Option Int32 :=
  (rec 0 (l0I) ((0 : Int32)))
def mX11_lowest (F : Nat) (l0I : Int32) : Option Int32 := mX11_lowest_s F (mX11_lowest_go F F) l0I 
set_option maxHeartbeats 4000000 in
set_option maxRecDepth 100000 in
theorem LX11_lowest_go {F : Nat} {v : Int32} {Φ : (Int32 → wPS → Prop)} : ∀ k' : Nat, (∀ (l0I : Int32) (l1I : Int32) (S : wPS) , mX11_lowest_go F k' 0 l0I l1I  = some v → (Φ v S) → rX11_lowest_go F k' 0 l0I l1I S Φ) := by
  intro k'
  induction k' with
  | zero => exact (fun _ _ _ h _ => by cases h)
  | succ k' ih =>
    intro l0I l1I S h k
    rw [mX11_lowest_go, if_pos rfl] at h
    rw [rX11_lowest_go, if_pos rfl]
    unfold mX11_lowest_b0 at h
    unfold rX11_lowest_b0
    refine mIf h Iff.rfl (fun c1 h => ?_) (fun c1 h => ?_)
    · cases h
      exact k
    · obtain ⟨v2, hv2, h⟩ := mBN_some h
      refine LX11_has hv2 rfl rfl ?_
      refine mIf h Iff.rfl (fun c2 h => ?_) (fun c2 h => ?_)
      · refine mLet h rfl (fun x8 ex8 h => ?_)
        exact ih _ _ _ h k
      · cases h
        exact k
set_option maxHeartbeats 4000000 in
set_option maxRecDepth 100000 in
theorem LX11_lowest {F : Nat} {S : wPS} {v : Int32} {Φ : (Int32 → wPS → Prop)} {l0Ix l0I : Int32} (h : mX11_lowest F l0I  = some v) (el0I : l0Ix = l0I) (k : (Φ v S)) : rX11_lowest F l0Ix S Φ := by
  have el0I := el0I.symm
  subst el0I
  have ih := LX11_lowest_go  (F := F) (v := v) (Φ := Φ) F
  unfold mX11_lowest mX11_lowest_s at h
  unfold rX11_lowest rX11_lowest_s
  exact ih _ _ _ h k
def mX11_hangingTogether_b0 (F : Nat) (rec : Nat → Nat → Int32 → Int32 → Int32 → Int32 → Int32 → mV → Option Int32) (l0A : Nat) (l2I : Int32) (l3I : Int32) (l4I : Int32) (V : mV) : Option Int32 :=
  (if (Int32.ofNat (mLen l0A)) ≤ l4I then some (l3I) else (rec 1 l0A (l2I) (l3I) (l4I) (l3I) ((0 : Int32)) V))
def mX11_hangingTogether_b1 (F : Nat) (rec : Nat → Nat → Int32 → Int32 → Int32 → Int32 → Int32 → mV → Option Int32) (l0A : Nat) (l2I : Int32) (l3I : Int32) (l4I : Int32) (l5I : Int32) (l6I : Int32) (V : mV) : Option Int32 :=
  (if (Int32.ofNat (mLen l0A)) ≤ l6I then (mLt (l4I + (1 : Int32)) fun x3 => (rec 0 l0A (l2I) (l5I) (x3) 0 0 V)) else (if ((l3I >>> (l6I &&& 31)) &&& (1 : Int32)) = 0 then (mLt (l6I + (1 : Int32)) fun x5 => (rec 1 l0A (l2I) (l3I) (l4I) (l5I) (x5) V)) else (if l6I < 0 ∨ mLen l0A ≤ (l6I).toNatClampNeg then none else (mLt (l5I ||| ((V.rI l0A (l6I).toNatClampNeg) &&& l2I)) fun x7 => (mLt (l6I + (1 : Int32)) fun x8 => (rec 1 l0A (l2I) (l3I) (l4I) (x7) (x8) V))))))
def mX11_hangingTogether_go (F : Nat) : Nat → Nat → Nat → Int32 → Int32 → Int32 → Int32 → Int32 → mV → Option Int32
  | 0, _, _, _, _, _, _, _, _ => none
  | k' + 1, lab, l0A, l2I, l3I, l4I, l5I, l6I, V => if lab = 0 then mX11_hangingTogether_b0 F (mX11_hangingTogether_go F k') l0A l2I l3I l4I V else if lab = 1 then mX11_hangingTogether_b1 F (mX11_hangingTogether_go F k') l0A l2I l3I l4I l5I l6I V else none
def mX11_hangingTogether_s (F : Nat) (rec : Nat → Nat → Int32 → Int32 → Int32 → Int32 → Int32 → mV → Option Int32) (l0A : Nat) (l1I : Int32) (l2I : Int32) (V : mV) : Option Int32 :=
  (mLt ((1 : Int32) <<< (l1I &&& 31)) fun x9 => (rec 0 l0A (l2I) (x9) ((0 : Int32)) 0 0 V))
def mX11_hangingTogether (F : Nat) (l0A : Nat) (l1I : Int32) (l2I : Int32) (V : mV) : Option Int32 := mX11_hangingTogether_s F (mX11_hangingTogether_go F F) l0A l1I l2I V
set_option maxHeartbeats 4000000 in
set_option maxRecDepth 100000 in
theorem LX11_hangingTogether_go {α : Nat → Nat} {F : Nat} {Ln : Nat → Nat} {v : Int32} {Φ : (Int32 → wPS → Prop)} : ∀ k' : Nat, (∀ (l0A : Nat) (l2I : Int32) (l3I : Int32) (l4I : Int32) (S : wPS) (V : mV) , mRel α S Ln V → mK l0A = 13 → mX11_hangingTogether_go F k' 0 l0A l2I l3I l4I 0 0 V = some v → (Φ v S) → rX11_hangingTogether_go F k' 0 (α l0A) l2I l3I l4I 0 0 S Φ) ∧ (∀ (l0A : Nat) (l2I : Int32) (l3I : Int32) (l4I : Int32) (l5I : Int32) (l6I : Int32) (S : wPS) (V : mV) , mRel α S Ln V → mK l0A = 13 → mX11_hangingTogether_go F k' 1 l0A l2I l3I l4I l5I l6I V = some v → (Φ v S) → rX11_hangingTogether_go F k' 1 (α l0A) l2I l3I l4I l5I l6I S Φ) := by
  intro k'
  induction k' with
  | zero => exact ⟨(fun _ _ _ _ _ _ _ _ h _ => by cases h), (fun _ _ _ _ _ _ _ _ _ _ h _ => by cases h)⟩
  | succ k' ih =>
    refine ⟨?_, ?_⟩
    · intro l0A l2I l3I l4I S V R sl0A h k
      rw [mX11_hangingTogether_go, if_pos rfl] at h
      rw [rX11_hangingTogether_go, if_pos rfl]
      unfold mX11_hangingTogether_b0 at h
      unfold rX11_hangingTogether_b0
      refine mIf h (by rw [show S.len (α l0A) = mLen l0A from (mg_len R (mA13 sl0A) rfl)]) (fun c1 h => ?_) (fun c1 h => ?_)
      · cases h
        exact k
      · exact ih.2 _ _ _ _ _ _ _ _ R sl0A h k
    · intro l0A l2I l3I l4I l5I l6I S V R sl0A h k
      rw [mX11_hangingTogether_go, if_neg (by decide), if_pos rfl] at h
      rw [rX11_hangingTogether_go, if_neg (by decide), if_pos rfl]
      unfold mX11_hangingTogether_b1 at h
      unfold rX11_hangingTogether_b1
      refine mIf h (by rw [show S.len (α l0A) = mLen l0A from (mg_len R (mA13 sl0A) rfl)]) (fun c2 h => ?_) (fun c2 h => ?_)
      · refine mLet h rfl (fun x3 ex3 h => ?_)
        exact ih.1 _ _ _ _ _ _ R sl0A h k
      · refine mIf h Iff.rfl (fun c3 h => ?_) (fun c3 h => ?_)
        · refine mLet h rfl (fun x5 ex5 h => ?_)
          exact ih.2 _ _ _ _ _ _ _ _ R sl0A h k
        · refine mGd h (by rw [show S.len (α l0A) = mLen l0A from (mg_len R (mA13 sl0A) rfl)]) (fun c4 h => ?_)
          refine mLet h (by rw [show S.rI (α l0A) (l6I).toNatClampNeg = V.rI l0A (l6I).toNatClampNeg from (mg_rI (i := l0A) R (mA13 sl0A) rfl rfl)]) (fun x7 ex7 h => ?_)
          refine mLet h rfl (fun x8 ex8 h => ?_)
          exact ih.2 _ _ _ _ _ _ _ _ R sl0A h k
set_option maxHeartbeats 4000000 in
set_option maxRecDepth 100000 in
theorem LX11_hangingTogether {α : Nat → Nat} {F : Nat} {S : wPS} {Ln : Nat → Nat} {V : mV} {v : Int32} {Φ : (Int32 → wPS → Prop)} {l0Ax : Nat} {l0A : Nat} {l1Ix l1I : Int32} {l2Ix l2I : Int32} (h : mX11_hangingTogether F l0A l1I l2I V = some v) (R : mRel α S Ln V) (sl0A : mK l0A = 13) (el0A : l0Ax = α l0A) (el1I : l1Ix = l1I) (el2I : l2Ix = l2I) (k : (Φ v S)) : rX11_hangingTogether F l0Ax l1Ix l2Ix S Φ := by
  have el0A := el0A.symm
  subst el0A
  have el1I := el1I.symm
  subst el1I
  have el2I := el2I.symm
  subst el2I
  have ih := LX11_hangingTogether_go  (α := α) (F := F) (v := v) (Ln := Ln) (Φ := Φ) F
  unfold mX11_hangingTogether mX11_hangingTogether_s at h
  unfold rX11_hangingTogether rX11_hangingTogether_s
  refine mLet h rfl (fun x9 ex9 h => ?_)
  exact ih.1 _ _ _ _ _ _ R sl0A h k
def mX11_divisorInCommon_b0 (F : Nat) (rec : Nat → Int64 → Int64 → Int32 → Option Int64) (l4J : Int64) (l6J : Int64) (l8I : Int32) : Option Int64 :=
  (if (200 : Int32) ≤ l8I then some (l4J) else (if (lg_cmp l6J (0 : Int64)) = 0 then some (l4J) else (if l6J = 0 then none else (mLt (l4J - l4J / l6J * l6J) fun x4 => (mLt (l8I + (1 : Int32)) fun x5 => (rec 0 (l6J) (x4) (x5)))))))
def mX11_divisorInCommon_go (F : Nat) : Nat → Nat → Int64 → Int64 → Int32 → Option Int64
  | 0, _, _, _, _ => none
  | k' + 1, lab, l4J, l6J, l8I => if lab = 0 then mX11_divisorInCommon_b0 F (mX11_divisorInCommon_go F k') l4J l6J l8I  else none
def mX11_divisorInCommon_s (F : Nat) (rec : Nat → Int64 → Int64 → Int32 → Option Int64) (l0J : Int64) (l2J : Int64) : Option Int64 :=
  (mLt (if 0 < l0J then l0J else -l0J) fun x6 => (mLt (if 0 < l2J then l2J else -l2J) fun x7 => (rec 0 (x6) (x7) ((0 : Int32)))))
def mX11_divisorInCommon (F : Nat) (l0J : Int64) (l2J : Int64) : Option Int64 := mX11_divisorInCommon_s F (mX11_divisorInCommon_go F F) l0J l2J 
set_option maxHeartbeats 4000000 in
set_option maxRecDepth 100000 in
theorem LX11_divisorInCommon_go {F : Nat} {v : Int64} {Φ : (Int64 → wPS → Prop)} : ∀ k' : Nat, (∀ (l4J : Int64) (l6J : Int64) (l8I : Int32) (S : wPS) , mX11_divisorInCommon_go F k' 0 l4J l6J l8I  = some v → (Φ v S) → rX11_divisorInCommon_go F k' 0 l4J l6J l8I S Φ) := by
  intro k'
  induction k' with
  | zero => exact (fun _ _ _ _ h _ => by cases h)
  | succ k' ih =>
    intro l4J l6J l8I S h k
    rw [mX11_divisorInCommon_go, if_pos rfl] at h
    rw [rX11_divisorInCommon_go, if_pos rfl]
    unfold mX11_divisorInCommon_b0 at h
    unfold rX11_divisorInCommon_b0
    refine mIf h Iff.rfl (fun c1 h => ?_) (fun c1 h => ?_)
    · cases h
      exact k
    · refine mIf h Iff.rfl (fun c2 h => ?_) (fun c2 h => ?_)
      · cases h
        exact k
      · refine mGd h Iff.rfl (fun c3 h => ?_)
        refine mLet h rfl (fun x4 ex4 h => ?_)
        refine mLet h rfl (fun x5 ex5 h => ?_)
        exact ih _ _ _ _ h k
set_option maxHeartbeats 4000000 in
set_option maxRecDepth 100000 in
theorem LX11_divisorInCommon {F : Nat} {S : wPS} {v : Int64} {Φ : (Int64 → wPS → Prop)} {l0Jx l0J : Int64} {l2Jx l2J : Int64} (h : mX11_divisorInCommon F l0J l2J  = some v) (el0J : l0Jx = l0J) (el2J : l2Jx = l2J) (k : (Φ v S)) : rX11_divisorInCommon F l0Jx l2Jx S Φ := by
  have el0J := el0J.symm
  subst el0J
  have el2J := el2J.symm
  subst el2J
  have ih := LX11_divisorInCommon_go  (F := F) (v := v) (Φ := Φ) F
  unfold mX11_divisorInCommon mX11_divisorInCommon_s at h
  unfold rX11_divisorInCommon rX11_divisorInCommon_s
  refine mLet h rfl (fun x6 ex6 h => ?_)
  refine mLet h rfl (fun x7 ex7 h => ?_)
  exact ih _ _ _ _ h k
def mX11_restOfPower_b0 (F : Nat) (rec : Nat → Int32 → Int64 → Int64 → Int32 → Int32 → Option Int32) (l2I : Int32) (l3J : Int64) (l5J : Int64) (l7I : Int32) (l8I : Int32) : Option Int32 :=
  (if (31 : Int32) ≤ l8I then some ((Int64.toInt32 l3J)) else (if l7I ≤ 0 then some ((Int64.toInt32 l3J)) else (if (l7I &&& (1 : Int32)) = (1 : Int32) then (if (Int32.toInt64 l2I) = 0 then none else (mLt ((l3J * l5J) - (l3J * l5J) / (Int32.toInt64 l2I) * (Int32.toInt64 l2I)) fun x9 => (if (Int32.toInt64 l2I) = 0 then none else (mLt ((l5J * l5J) - (l5J * l5J) / (Int32.toInt64 l2I) * (Int32.toInt64 l2I)) fun x11 => (mLt (l7I >>> ((1 : Int32) &&& 31)) fun x12 => (mLt (l8I + (1 : Int32)) fun x13 => (rec 0 (l2I) (x9) (x11) (x12) (x13)))))))) else (if (Int32.toInt64 l2I) = 0 then none else (mLt ((l5J * l5J) - (l5J * l5J) / (Int32.toInt64 l2I) * (Int32.toInt64 l2I)) fun x5 => (mLt (l7I >>> ((1 : Int32) &&& 31)) fun x6 => (mLt (l8I + (1 : Int32)) fun x7 => (rec 0 (l2I) (l3J) (x5) (x6) (x7)))))))))
def mX11_restOfPower_go (F : Nat) : Nat → Nat → Int32 → Int64 → Int64 → Int32 → Int32 → Option Int32
  | 0, _, _, _, _, _, _ => none
  | k' + 1, lab, l2I, l3J, l5J, l7I, l8I => if lab = 0 then mX11_restOfPower_b0 F (mX11_restOfPower_go F k') l2I l3J l5J l7I l8I  else none
def mX11_restOfPower_s (F : Nat) (rec : Nat → Int32 → Int64 → Int64 → Int32 → Int32 → Option Int32) (l0I : Int32) (l1I : Int32) (l2I : Int32) : Option Int32 :=
  (if (1 : Int32) ≤ l2I then (if l2I = 0 then none else (mLt (Int32.toInt64 ((1 : Int32) - (1 : Int32) / l2I * l2I)) fun x16 => (if l2I = 0 then none else (mLt (Int32.toInt64 (l0I - l0I / l2I * l2I)) fun x18 => (rec 0 (l2I) (x16) (x18) (l1I) ((0 : Int32))))))) else some ((0 : Int32)))
def mX11_restOfPower (F : Nat) (l0I : Int32) (l1I : Int32) (l2I : Int32) : Option Int32 := mX11_restOfPower_s F (mX11_restOfPower_go F F) l0I l1I l2I 
set_option maxHeartbeats 4000000 in
set_option maxRecDepth 100000 in
theorem LX11_restOfPower_go {F : Nat} {v : Int32} {Φ : (Int32 → wPS → Prop)} : ∀ k' : Nat, (∀ (l2I : Int32) (l3J : Int64) (l5J : Int64) (l7I : Int32) (l8I : Int32) (S : wPS) , mX11_restOfPower_go F k' 0 l2I l3J l5J l7I l8I  = some v → (Φ v S) → rX11_restOfPower_go F k' 0 l2I l3J l5J l7I l8I S Φ) := by
  intro k'
  induction k' with
  | zero => exact (fun _ _ _ _ _ _ h _ => by cases h)
  | succ k' ih =>
    intro l2I l3J l5J l7I l8I S h k
    rw [mX11_restOfPower_go, if_pos rfl] at h
    rw [rX11_restOfPower_go, if_pos rfl]
    unfold mX11_restOfPower_b0 at h
    unfold rX11_restOfPower_b0
    refine mIf h Iff.rfl (fun c1 h => ?_) (fun c1 h => ?_)
    · cases h
      exact k
    · refine mIf h Iff.rfl (fun c2 h => ?_) (fun c2 h => ?_)
      · cases h
        exact k
      · refine mIf h Iff.rfl (fun c3 h => ?_) (fun c3 h => ?_)
        · refine mGd h Iff.rfl (fun c4 h => ?_)
          refine mLet h rfl (fun x9 ex9 h => ?_)
          refine mGd h Iff.rfl (fun c5 h => ?_)
          refine mLet h rfl (fun x11 ex11 h => ?_)
          refine mLet h rfl (fun x12 ex12 h => ?_)
          refine mLet h rfl (fun x13 ex13 h => ?_)
          exact ih _ _ _ _ _ _ h k
        · refine mGd h Iff.rfl (fun c6 h => ?_)
          refine mLet h rfl (fun x5 ex5 h => ?_)
          refine mLet h rfl (fun x6 ex6 h => ?_)
          refine mLet h rfl (fun x7 ex7 h => ?_)
          exact ih _ _ _ _ _ _ h k
set_option maxHeartbeats 4000000 in
set_option maxRecDepth 100000 in
theorem LX11_restOfPower {F : Nat} {S : wPS} {v : Int32} {Φ : (Int32 → wPS → Prop)} {l0Ix l0I : Int32} {l1Ix l1I : Int32} {l2Ix l2I : Int32} (h : mX11_restOfPower F l0I l1I l2I  = some v) (el0I : l0Ix = l0I) (el1I : l1Ix = l1I) (el2I : l2Ix = l2I) (k : (Φ v S)) : rX11_restOfPower F l0Ix l1Ix l2Ix S Φ := by
  have el0I := el0I.symm
  subst el0I
  have el1I := el1I.symm
  subst el1I
  have el2I := el2I.symm
  subst el2I
  have ih := LX11_restOfPower_go  (F := F) (v := v) (Φ := Φ) F
  unfold mX11_restOfPower mX11_restOfPower_s at h
  unfold rX11_restOfPower rX11_restOfPower_s
  refine mIf h Iff.rfl (fun c7 h => ?_) (fun c7 h => ?_)
  · refine mGd h Iff.rfl (fun c8 h => ?_)
    refine mLet h rfl (fun x16 ex16 h => ?_)
    refine mGd h Iff.rfl (fun c9 h => ?_)
    refine mLet h rfl (fun x18 ex18 h => ?_)
    exact ih _ _ _ _ _ _ h k
  · cases h
    exact k
def mJ11_isValidCodePoint_9a6ad (F : Nat) (l0I : Int32) : Option Int32 :=
  (mLt (((l0I).toUInt32 >>> (((16 : Int32)).toUInt32 &&& Int32.toUInt32 31)).toInt32) fun x1 => (if (17 : Int32) ≤ x1 then some ((0 : Int32)) else some ((1 : Int32))))
set_option maxHeartbeats 4000000 in
set_option maxRecDepth 100000 in
theorem LJ11_isValidCodePoint_9a6ad {F : Nat} {S : wPS} {v : Int32} {Φ : (Int32 → wPS → Prop)} {l0Ix l0I : Int32} (h : mJ11_isValidCodePoint_9a6ad F l0I  = some v) (el0I : l0Ix = l0I) (k : (Φ v S)) : rJ11_isValidCodePoint_9a6ad F l0Ix S Φ := by
  have el0I := el0I.symm
  subst el0I
  unfold mJ11_isValidCodePoint_9a6ad at h
  unfold rJ11_isValidCodePoint_9a6ad
  refine mLet h rfl (fun x1 ex1 h => ?_)
  refine mIf h Iff.rfl (fun c1 h => ?_) (fun c1 h => ?_)
  · cases h
    exact k
  · cases h
    exact k
def mJ11_highSurrogate_5068e (F : Nat) (l0I : Int32) : Option Int32 :=
  (if ¬ (((((Int32.toUInt32 (((l0I).toUInt32 >>> (((10 : Int32)).toUInt32 &&& Int32.toUInt32 31)).toInt32 + (55232 : Int32))) % 65536).toInt32 : Int32).toUInt32 % 65536).toInt32 = ((Int32.toUInt32 (((l0I).toUInt32 >>> (((10 : Int32)).toUInt32 &&& Int32.toUInt32 31)).toInt32 + (55232 : Int32))) % 65536).toInt32) then none else some (((Int32.toUInt32 (((l0I).toUInt32 >>> (((10 : Int32)).toUInt32 &&& Int32.toUInt32 31)).toInt32 + (55232 : Int32))) % 65536).toInt32))
set_option maxHeartbeats 4000000 in
set_option maxRecDepth 100000 in
theorem LJ11_highSurrogate_5068e {F : Nat} {S : wPS} {v : Int32} {Φ : (Int32 → wPS → Prop)} {l0Ix l0I : Int32} (h : mJ11_highSurrogate_5068e F l0I  = some v) (el0I : l0Ix = l0I) (k : (Φ v S)) : rJ11_highSurrogate_5068e F l0Ix S Φ := by
  have el0I := el0I.symm
  subst el0I
  unfold mJ11_highSurrogate_5068e at h
  unfold rJ11_highSurrogate_5068e
  refine mGp h Iff.rfl (fun c1 h => ?_)
  cases h
  exact k
end
