/-! LIFTED BY PROGRAM (lift.py): X11_settleEntry, J0_charAt_5068e, J0_indexOf_7cf53, X1_isFulfilled, X2_fillsFrom. -/
section
def mX11_settleEntry_b0 (F : Nat) (rec : Nat → (Nat → Nat) → Int32 → Nat → mV → Option (Unit × (Nat → Nat) × mV)) (Ln : Nat → Nat) (l1I : Int32) (l2A : Nat) (V : mV) : Option (Unit × (Nat → Nat) × mV) :=
  (if (V.fI l2A 14) = 0 then (mLt (mF V l2A 14 ((1 : Int32))) fun V2 => (if ¬ ((((V2.fI l2A 11) : Int32).toUInt32 % 65536).toInt32 = (V2.fI l2A 11)) then none else (mLt (mF V2 l2A 15 ((V2.fI l2A 11))) fun V4 => (mBA (mX9_copy F Ln (l2A + 4) (l2A + 2) V4) fun v5 L6 V6 => some ((), L6, V6))))) else (mBN (mX9_isLike F Ln (l2A + 2) (l2A + 4) V) fun v10 => (if v10 = 0 then (mBN (mX9_firstUnlike F Ln (l2A + 2) (l2A + 4) V) fun v24 => (mBA (mX11_addError F Ln (l1I) ((114 : Int32)) (v24) V) fun v29 L30 V30 => (mLt (mF V30 l2A 14 ((1 : Int32))) fun V34 => (if ¬ ((((V34.fI l2A 11) : Int32).toUInt32 % 65536).toInt32 = (V34.fI l2A 11)) then none else (mLt (mF V34 l2A 15 ((V34.fI l2A 11))) fun V36 => (mBA (mX9_copy F L30 (l2A + 4) (l2A + 2) V36) fun v37 L38 V38 => some ((), L38, V38))))))) else (mLt (mF V l2A 14 ((1 : Int32))) fun V16 => (if ¬ ((((V16.fI l2A 11) : Int32).toUInt32 % 65536).toInt32 = (V16.fI l2A 11)) then none else (mLt (mF V16 l2A 15 ((V16.fI l2A 11))) fun V18 => (mBA (mX9_copy F Ln (l2A + 4) (l2A + 2) V18) fun v19 L20 V20 => some ((), L20, V20))))))))
def mX11_settleEntry_go (F : Nat) : Nat → Nat → (Nat → Nat) → Int32 → Nat → mV → Option (Unit × (Nat → Nat) × mV)
  | 0, _, _, _, _, _ => none
  | k' + 1, lab, Ln, l1I, l2A, V => if lab = 0 then mX11_settleEntry_b0 F (mX11_settleEntry_go F k') Ln l1I l2A V else none
def mX11_settleEntry_s (F : Nat) (rec : Nat → (Nat → Nat) → Int32 → Nat → mV → Option (Unit × (Nat → Nat) × mV)) (Ln : Nat → Nat) (l1I : Int32) (l2A : Nat) (V : mV) : Option (Unit × (Nat → Nat) × mV) :=
  (if (V.fI l2A 14) = 0 then (rec 0 Ln (l1I) l2A V) else (if (V.fI l2A 11) = (V.fI l2A 15) then (rec 0 Ln (l1I) l2A V) else (mBA (mX11_addError F Ln (l1I) ((V.fI l2A 11)) ((0 : Int32)) V) fun v44 L45 V45 => (mLt (mF V45 l2A 14 ((1 : Int32))) fun V49 => (if ¬ ((((V49.fI l2A 11) : Int32).toUInt32 % 65536).toInt32 = (V49.fI l2A 11)) then none else (mLt (mF V49 l2A 15 ((V49.fI l2A 11))) fun V51 => (mBA (mX9_copy F L45 (l2A + 4) (l2A + 2) V51) fun v52 L53 V53 => some ((), L53, V53))))))))
def mX11_settleEntry (F : Nat) (Ln : Nat → Nat) (l1I : Int32) (l2A : Nat) (V : mV) : Option (Unit × (Nat → Nat) × mV) := mX11_settleEntry_s F (mX11_settleEntry_go F F) Ln l1I l2A V
set_option maxHeartbeats 4000000 in
set_option maxRecDepth 100000 in
theorem MX11_settleEntry_go {F : Nat} {v : Unit} {Ln1 : Nat → Nat} {V1 : mV} : ∀ k' : Nat, (∀ (l1I : Int32) (l2A : Nat) (Ln : Nat → Nat) (V : mV), mX11_settleEntry_go F k' 0 Ln l1I l2A V = some (v, Ln1, V1) → mP Ln1 ≤ mP Ln) := by
  intro k'
  induction k' with
  | zero => exact (fun _ _ _ _ h => by cases h)
  | succ k' ihM =>
    skip
    intro l1I l2A Ln V h
    rw [mX11_settleEntry_go, if_pos rfl] at h
    unfold mX11_settleEntry_b0 at h
    rcases mIf_some h with ⟨_, h⟩ | ⟨_, h⟩
    · obtain ⟨_, _, h⟩ := mLt_some h
      obtain ⟨_, h⟩ := mGd_some h
      obtain ⟨_, _, h⟩ := mLt_some h
      obtain ⟨_, _, _, z1, h⟩ := mBA_some h
      refine Nat.le_trans ?_ (MX9_copy z1)
      cases h
      exact Nat.le_refl _
    · obtain ⟨_, _, h⟩ := mBN_some h
      rcases mIf_some h with ⟨_, h⟩ | ⟨_, h⟩
      · obtain ⟨_, _, h⟩ := mBN_some h
        obtain ⟨_, _, _, z2, h⟩ := mBA_some h
        refine Nat.le_trans ?_ (MX11_addError z2)
        obtain ⟨_, _, h⟩ := mLt_some h
        obtain ⟨_, h⟩ := mGd_some h
        obtain ⟨_, _, h⟩ := mLt_some h
        obtain ⟨_, _, _, z3, h⟩ := mBA_some h
        refine Nat.le_trans ?_ (MX9_copy z3)
        cases h
        exact Nat.le_refl _
      · obtain ⟨_, _, h⟩ := mLt_some h
        obtain ⟨_, h⟩ := mGd_some h
        obtain ⟨_, _, h⟩ := mLt_some h
        obtain ⟨_, _, _, z4, h⟩ := mBA_some h
        refine Nat.le_trans ?_ (MX9_copy z4)
        cases h
        exact Nat.le_refl _
set_option maxHeartbeats 4000000 in
set_option maxRecDepth 100000 in
theorem MX11_settleEntry {F : Nat} {Ln Ln1 : Nat → Nat} {V V1 : mV} {v : Unit} {l1I : Int32} {l2A : Nat} (h : mX11_settleEntry F Ln l1I l2A V = some (v, Ln1, V1)) : mP Ln1 ≤ mP Ln := by
  have ihM := MX11_settleEntry_go (F := F) (v := v) (Ln1 := Ln1) (V1 := V1) F
  unfold mX11_settleEntry mX11_settleEntry_s at h
  rcases mIf_some h with ⟨_, h⟩ | ⟨_, h⟩
  · exact ihM _ _ _ _ h
  · rcases mIf_some h with ⟨_, h⟩ | ⟨_, h⟩
    · exact ihM _ _ _ _ h
    · obtain ⟨_, _, _, z5, h⟩ := mBA_some h
      refine Nat.le_trans ?_ (MX11_addError z5)
      obtain ⟨_, _, h⟩ := mLt_some h
      obtain ⟨_, h⟩ := mGd_some h
      obtain ⟨_, _, h⟩ := mLt_some h
      obtain ⟨_, _, _, z6, h⟩ := mBA_some h
      refine Nat.le_trans ?_ (MX9_copy z6)
      cases h
      exact Nat.le_refl _
set_option maxHeartbeats 4000000 in
set_option maxRecDepth 100000 in
theorem LX11_settleEntry_go {α : Nat → Nat} {k0 n0 : Nat} {F : Nat} {v : Unit} {Ln1 : Nat → Nat} {V1 : mV} {Φ : (Unit → wPS → Prop)} : ∀ k' : Nat, (∀ (l1I : Int32) (l2A : Nat) (S : wPS) (V : mV) (Ln : Nat → Nat) (c s : Nat), mRel α S Ln V → mK l2A = 3 → mX11_settleEntry_go F k' 0 Ln l1I l2A V = some (v, Ln1, V1) → c + (mP Ln - mP Ln1) / 16 ≤ k0 → s + (mP Ln - mP Ln1) ≤ n0 → (∀ S1, mRel α S1 Ln1 V1 → mFr α S S1 → Φ v S1) → rX11_settleEntry_go F k0 n0 k' 0 c s (α 0) l1I (α l2A) S Φ) := by
  intro k'
  induction k' with
  | zero => exact (fun _ _ _ _ _ _ _ _ _ h _ _ _ => by cases h)
  | succ k' ih =>
    have ihM := MX11_settleEntry_go (F := F) (v := v) (Ln1 := Ln1) (V1 := V1) k'
    intro l1I l2A S V Ln c s R sl2A h hk hn k
    rw [mX11_settleEntry_go, if_pos rfl] at h
    rw [rX11_settleEntry_go, if_pos rfl]
    unfold mX11_settleEntry_b0 at h
    unfold rX11_settleEntry_b0
    refine mIf h (by rw [show gEntry_wasSettled S (α l2A) = V.fI l2A 14 from (mg_I (i := l2A) R (mO3 sl2A) rfl 14)]) (fun c7 h => ?_) (fun c7 h => ?_)
    · obtain ⟨V2, eV2, h⟩ := mLt_some h
      refine mU_F eV2 R (mO3 sl2A) rfl rfl (fun S2 R2 F2 => ?_)
      refine mGp h (by rw [show gEntry_reply S2 (α l2A) = V2.fI l2A 11 from (mg_I (i := l2A) R2 (mO3 sl2A) rfl 11)]) (fun c8 h => ?_)
      obtain ⟨V4, eV4, h⟩ := mLt_some h
      refine mU_F eV4 R2 (mO3 sl2A) rfl (by rw [show gEntry_reply S2 (α l2A) = V2.fI l2A 11 from (mg_I (i := l2A) R2 (mO3 sl2A) rfl 11)]) (fun S4 R4 F4 => ?_)
      obtain ⟨v5, L6, V6, hv5, h⟩ := mBA_some h
      have mv5 : mP L6 ≤ mP Ln := MX9_copy hv5
      have qv5 : mP Ln1 ≤ mP L6 := by
        cases h
        exact Nat.le_refl _
      refine ⟨(mP Ln - mP L6) / 16, mP Ln - mP L6, by omega, by omega, ?_⟩
      refine LX9_copy hv5 R4 (mKe4 sl2A) (mKe2 sl2A) (mg_A (t := (l2A + 4)) R4 (mRe sl2A rfl) rfl) (mg_A (t := (l2A + 2)) R4 (mRe sl2A rfl) rfl) (by omega) (by omega) (fun S6 R6 F6 => ?_)
      obtain ⟨rfl, rfl, rfl⟩ := mRA3 h
      exact k _ R6 (F2.tr (F4.tr F6))
    · obtain ⟨v10, hv10, h⟩ := mBN_some h
      refine LX9_isLike hv10 R (mKe2 sl2A) (mKe4 sl2A) (mg_A (t := (l2A + 2)) R (mRe sl2A rfl) rfl) (mg_A (t := (l2A + 4)) R (mRe sl2A rfl) rfl) ?_
      refine mIf h Iff.rfl (fun c9 h => ?_) (fun c9 h => ?_)
      · obtain ⟨v24, hv24, h⟩ := mBN_some h
        refine LX9_firstUnlike hv24 R (mKe2 sl2A) (mKe4 sl2A) (mg_A (t := (l2A + 2)) R (mRe sl2A rfl) rfl) (mg_A (t := (l2A + 4)) R (mRe sl2A rfl) rfl) ?_
        obtain ⟨v29, L30, V30, hv29, h⟩ := mBA_some h
        have mv29 : mP L30 ≤ mP Ln := MX11_addError hv29
        have qv29 : mP Ln1 ≤ mP L30 := by
          obtain ⟨_, _, h⟩ := mLt_some h
          obtain ⟨_, h⟩ := mGd_some h
          obtain ⟨_, _, h⟩ := mLt_some h
          obtain ⟨_, _, _, z10, h⟩ := mBA_some h
          refine Nat.le_trans ?_ (MX9_copy z10)
          cases h
          exact Nat.le_refl _
        refine ⟨(mP Ln - mP L30) / 16, mP Ln - mP L30, by omega, by omega, ?_⟩
        refine LX11_addError hv29 R rfl rfl rfl rfl (by omega) (by omega) (fun S30 R30 F30 => ?_)
        obtain ⟨V34, eV34, h⟩ := mLt_some h
        refine mU_F eV34 R30 (mO3 sl2A) rfl rfl (fun S34 R34 F34 => ?_)
        refine mGp h (by rw [show gEntry_reply S34 (α l2A) = V34.fI l2A 11 from (mg_I (i := l2A) R34 (mO3 sl2A) rfl 11)]) (fun c11 h => ?_)
        obtain ⟨V36, eV36, h⟩ := mLt_some h
        refine mU_F eV36 R34 (mO3 sl2A) rfl (by rw [show gEntry_reply S34 (α l2A) = V34.fI l2A 11 from (mg_I (i := l2A) R34 (mO3 sl2A) rfl 11)]) (fun S36 R36 F36 => ?_)
        obtain ⟨v37, L38, V38, hv37, h⟩ := mBA_some h
        have mv37 : mP L38 ≤ mP L30 := MX9_copy hv37
        have qv37 : mP Ln1 ≤ mP L38 := by
          cases h
          exact Nat.le_refl _
        refine ⟨(mP L30 - mP L38) / 16, mP L30 - mP L38, by omega, by omega, ?_⟩
        refine LX9_copy hv37 R36 (mKe4 sl2A) (mKe2 sl2A) (mg_A (t := (l2A + 4)) R36 (mRe sl2A rfl) rfl) (mg_A (t := (l2A + 2)) R36 (mRe sl2A rfl) rfl) (by omega) (by omega) (fun S38 R38 F38 => ?_)
        obtain ⟨rfl, rfl, rfl⟩ := mRA3 h
        exact k _ R38 (F30.tr (F34.tr (F36.tr F38)))
      · obtain ⟨V16, eV16, h⟩ := mLt_some h
        refine mU_F eV16 R (mO3 sl2A) rfl rfl (fun S16 R16 F16 => ?_)
        refine mGp h (by rw [show gEntry_reply S16 (α l2A) = V16.fI l2A 11 from (mg_I (i := l2A) R16 (mO3 sl2A) rfl 11)]) (fun c12 h => ?_)
        obtain ⟨V18, eV18, h⟩ := mLt_some h
        refine mU_F eV18 R16 (mO3 sl2A) rfl (by rw [show gEntry_reply S16 (α l2A) = V16.fI l2A 11 from (mg_I (i := l2A) R16 (mO3 sl2A) rfl 11)]) (fun S18 R18 F18 => ?_)
        obtain ⟨v19, L20, V20, hv19, h⟩ := mBA_some h
        have mv19 : mP L20 ≤ mP Ln := MX9_copy hv19
        have qv19 : mP Ln1 ≤ mP L20 := by
          cases h
          exact Nat.le_refl _
        refine ⟨(mP Ln - mP L20) / 16, mP Ln - mP L20, by omega, by omega, ?_⟩
        refine LX9_copy hv19 R18 (mKe4 sl2A) (mKe2 sl2A) (mg_A (t := (l2A + 4)) R18 (mRe sl2A rfl) rfl) (mg_A (t := (l2A + 2)) R18 (mRe sl2A rfl) rfl) (by omega) (by omega) (fun S20 R20 F20 => ?_)
        obtain ⟨rfl, rfl, rfl⟩ := mRA3 h
        exact k _ R20 (F16.tr (F18.tr F20))
set_option maxHeartbeats 4000000 in
set_option maxRecDepth 100000 in
theorem LX11_settleEntry {α : Nat → Nat} {F : Nat} {S : wPS} {Ln Ln1 : Nat → Nat} {V V1 : mV} {v : Unit} {Φ : (Unit → wPS → Prop)} {l0Ax : Nat} {l1Ix l1I : Int32} {l2Ax : Nat} {l2A : Nat} {k0 n0 : Nat} (h : mX11_settleEntry F Ln l1I l2A V = some (v, Ln1, V1)) (R : mRel α S Ln V) (sl2A : mK l2A = 3) (el0A : l0Ax = α 0) (el1I : l1Ix = l1I) (el2A : l2Ax = α l2A) (hk : (mP Ln - mP Ln1) / 16 ≤ k0) (hn : mP Ln - mP Ln1 ≤ n0) (k : (∀ S1, mRel α S1 Ln1 V1 → mFr α S S1 → Φ v S1)) : rX11_settleEntry F k0 n0 l0Ax l1Ix l2Ax S Φ := by
  have el0A := el0A.symm
  subst el0A
  have el1I := el1I.symm
  subst el1I
  have el2A := el2A.symm
  subst el2A
  have ih := LX11_settleEntry_go  (α := α) (F := F) (v := v) (k0 := k0) (n0 := n0) (Ln1 := Ln1) (Φ := Φ) (V1 := V1) F
  have ihM := MX11_settleEntry_go (F := F) (v := v) (Ln1 := Ln1) (V1 := V1) F
  unfold mX11_settleEntry mX11_settleEntry_s at h
  unfold rX11_settleEntry rX11_settleEntry_s
  refine mIf h (by rw [show gEntry_wasSettled S (α l2A) = V.fI l2A 14 from (mg_I (i := l2A) R (mO3 sl2A) rfl 14)]) (fun c13 h => ?_) (fun c13 h => ?_)
  · exact ih _ _ _ _ _ _ _ R sl2A h (by omega) (by omega) (fun S1 R1 F1 => k S1 R1 F1)
  · refine mIf h (by rw [show gEntry_settledReply S (α l2A) = V.fI l2A 15 from (mg_I (i := l2A) R (mO3 sl2A) rfl 15), show gEntry_reply S (α l2A) = V.fI l2A 11 from (mg_I (i := l2A) R (mO3 sl2A) rfl 11)]) (fun c14 h => ?_) (fun c14 h => ?_)
    · exact ih _ _ _ _ _ _ _ R sl2A h (by omega) (by omega) (fun S1 R1 F1 => k S1 R1 F1)
    · obtain ⟨v44, L45, V45, hv44, h⟩ := mBA_some h
      have mv44 : mP L45 ≤ mP Ln := MX11_addError hv44
      have qv44 : mP Ln1 ≤ mP L45 := by
        obtain ⟨_, _, h⟩ := mLt_some h
        obtain ⟨_, h⟩ := mGd_some h
        obtain ⟨_, _, h⟩ := mLt_some h
        obtain ⟨_, _, _, z15, h⟩ := mBA_some h
        refine Nat.le_trans ?_ (MX9_copy z15)
        cases h
        exact Nat.le_refl _
      refine ⟨(mP Ln - mP L45) / 16, mP Ln - mP L45, by omega, by omega, ?_⟩
      refine LX11_addError hv44 R rfl rfl (by rw [show gEntry_reply S (α l2A) = V.fI l2A 11 from (mg_I (i := l2A) R (mO3 sl2A) rfl 11)]) rfl (by omega) (by omega) (fun S45 R45 F45 => ?_)
      obtain ⟨V49, eV49, h⟩ := mLt_some h
      refine mU_F eV49 R45 (mO3 sl2A) rfl rfl (fun S49 R49 F49 => ?_)
      refine mGp h (by rw [show gEntry_reply S49 (α l2A) = V49.fI l2A 11 from (mg_I (i := l2A) R49 (mO3 sl2A) rfl 11)]) (fun c16 h => ?_)
      obtain ⟨V51, eV51, h⟩ := mLt_some h
      refine mU_F eV51 R49 (mO3 sl2A) rfl (by rw [show gEntry_reply S49 (α l2A) = V49.fI l2A 11 from (mg_I (i := l2A) R49 (mO3 sl2A) rfl 11)]) (fun S51 R51 F51 => ?_)
      obtain ⟨v52, L53, V53, hv52, h⟩ := mBA_some h
      have mv52 : mP L53 ≤ mP L45 := MX9_copy hv52
      have qv52 : mP Ln1 ≤ mP L53 := by
        cases h
        exact Nat.le_refl _
      refine ⟨(mP L45 - mP L53) / 16, mP L45 - mP L53, by omega, by omega, ?_⟩
      refine LX9_copy hv52 R51 (mKe4 sl2A) (mKe2 sl2A) (mg_A (t := (l2A + 4)) R51 (mRe sl2A rfl) rfl) (mg_A (t := (l2A + 2)) R51 (mRe sl2A rfl) rfl) (by omega) (by omega) (fun S53 R53 F53 => ?_)
      obtain ⟨rfl, rfl, rfl⟩ := mRA3 h
      exact k _ R53 (F45.tr (F49.tr (F51.tr F53)))
def mJ0_charAt_5068e (F : Nat) (l1I : Int32) : Option Int32 :=
  (mBN (mJ1_charAt_3b067 F (l1I)) fun v3 => (if ¬ (((v3 : Int32).toUInt32 % 65536).toInt32 = v3) then none else some (v3)))
set_option maxHeartbeats 4000000 in
set_option maxRecDepth 100000 in
theorem LJ0_charAt_5068e {F : Nat} {S : wPS} {v : Int32} {Φ : (Int32 → wPS → Prop)} {l1Ix l1I : Int32} (h : mJ0_charAt_5068e F l1I  = some v) (el1I : l1Ix = l1I) (k : (Φ v S)) : rJ0_charAt_5068e F l1Ix S Φ := by
  have el1I := el1I.symm
  subst el1I
  unfold mJ0_charAt_5068e at h
  unfold rJ0_charAt_5068e
  obtain ⟨v3, hv3, h⟩ := mBN_some h
  refine LJ1_charAt_3b067 hv3 rfl ?_
  refine mGp h Iff.rfl (fun c1 h => ?_)
  cases h
  exact k
def mJ0_indexOf_7cf53 (F : Nat) (l1I : Int32) (l2I : Int32) : Option Int32 :=
  (mBN (mJ1_indexOf_4cfef F (l1I) (l2I) ((12 : Int32))) fun v5 => some (v5))
set_option maxHeartbeats 4000000 in
set_option maxRecDepth 100000 in
theorem LJ0_indexOf_7cf53 {F : Nat} {S : wPS} {v : Int32} {Φ : (Int32 → wPS → Prop)} {l1Ix l1I : Int32} {l2Ix l2I : Int32} (h : mJ0_indexOf_7cf53 F l1I l2I  = some v) (el1I : l1Ix = l1I) (el2I : l2Ix = l2I) (k : (Φ v S)) : rJ0_indexOf_7cf53 F l1Ix l2Ix S Φ := by
  have el1I := el1I.symm
  subst el1I
  have el2I := el2I.symm
  subst el2I
  unfold mJ0_indexOf_7cf53 at h
  unfold rJ0_indexOf_7cf53
  obtain ⟨v5, hv5, h⟩ := mBN_some h
  refine LJ1_indexOf_4cfef hv5 rfl rfl rfl ?_
  cases h
  exact k
def mX1_isFulfilled_b0 (F : Nat) (rec : Nat → Nat → Int32 → Int32 → mV → Option (Int32 × mV)) (l1A : Nat) (l2I : Int32) (l3I : Int32) (V : mV) : Option (Int32 × mV) :=
  (if (V.fI 5 4) ≤ l3I then (mBN (mJ6_bitCount_0f7a4 F ((V.fI 5 5))) fun v2 => (if (V.fI l1A 8) < v2 then some ((0 : Int32), V) else (mBN (mX1_brokenItem F l1A V) fun v8 => (if 0 ≤ v8 then some ((0 : Int32), V) else some ((1 : Int32), V))))) else (mBN (mX11_has F (l2I) ((((V.fI 5 4) - (1 : Int32)) - l3I))) fun v14 => (if v14 = 0 then (mLt (l3I + (1 : Int32)) fun x20 => (rec 0 l1A (l2I) (x20) V)) else (mLt (mF V 5 5 (((V.fI 5 5) ||| ((1 : Int32) <<< (l3I &&& 31))))) fun V21 => (mLt (l3I + (1 : Int32)) fun x22 => (rec 0 l1A (l2I) (x22) V21))))))
def mX1_isFulfilled_go (F : Nat) : Nat → Nat → Nat → Int32 → Int32 → mV → Option (Int32 × mV)
  | 0, _, _, _, _, _ => none
  | k' + 1, lab, l1A, l2I, l3I, V => if lab = 0 then mX1_isFulfilled_b0 F (mX1_isFulfilled_go F k') l1A l2I l3I V else none
def mX1_isFulfilled_s (F : Nat) (rec : Nat → Nat → Int32 → Int32 → mV → Option (Int32 × mV)) (l1A : Nat) (l2I : Int32) (V : mV) : Option (Int32 × mV) :=
  (mLt (mF V 5 4 ((V.fI l1A 1))) fun V23 => (mLt (mF V23 5 5 ((0 : Int32))) fun V24 => (rec 0 l1A (l2I) ((0 : Int32)) V24)))
def mX1_isFulfilled (F : Nat) (l1A : Nat) (l2I : Int32) (V : mV) : Option (Int32 × mV) := mX1_isFulfilled_s F (mX1_isFulfilled_go F F) l1A l2I V
set_option maxHeartbeats 4000000 in
set_option maxRecDepth 100000 in
theorem LX1_isFulfilled_go {α : Nat → Nat} {F : Nat} {Ln : Nat → Nat} {v : Int32} {V1 : mV} {Φ : (Int32 → wPS → Prop)} : ∀ k' : Nat, (∀ (l1A : Nat) (l2I : Int32) (l3I : Int32) (S : wPS) (V : mV) , mRel α S Ln V → mK l1A = 3 → mX1_isFulfilled_go F k' 0 l1A l2I l3I V = some (v, V1) → (∀ S1, mRel α S1 Ln V1 → mFr α S S1 → Φ v S1) → rX1_isFulfilled_go F k' 0 (α 5) (α l1A) l2I l3I S Φ) := by
  intro k'
  induction k' with
  | zero => exact (fun _ _ _ _ _ _ _ h _ => by cases h)
  | succ k' ih =>
    intro l1A l2I l3I S V R sl1A h k
    rw [mX1_isFulfilled_go, if_pos rfl] at h
    rw [rX1_isFulfilled_go, if_pos rfl]
    unfold mX1_isFulfilled_b0 at h
    unfold rX1_isFulfilled_b0
    refine mIf h (by rw [show gClauses_depth S (α 5) = V.fI 5 4 from (mg_I (i := 5) R (by decide) rfl 4)]) (fun c1 h => ?_) (fun c1 h => ?_)
    · obtain ⟨v2, hv2, h⟩ := mBN_some h
      refine LJ6_bitCount_0f7a4 hv2 (by rw [show gClauses_ones S (α 5) = V.fI 5 5 from (mg_I (i := 5) R (by decide) rfl 5)]) ?_
      refine mIf h (by rw [show gEntry_boundNow S (α l1A) = V.fI l1A 8 from (mg_I (i := l1A) R (mO3 sl1A) rfl 8)]) (fun c2 h => ?_) (fun c2 h => ?_)
      · obtain ⟨rfl, rfl⟩ := mRW h
        exact k _ R mFr.rf
      · obtain ⟨v8, hv8, h⟩ := mBN_some h
        refine LX1_brokenItem hv8 R sl1A rfl rfl ?_
        refine mIf h Iff.rfl (fun c3 h => ?_) (fun c3 h => ?_)
        · obtain ⟨rfl, rfl⟩ := mRW h
          exact k _ R mFr.rf
        · obtain ⟨rfl, rfl⟩ := mRW h
          exact k _ R mFr.rf
    · obtain ⟨v14, hv14, h⟩ := mBN_some h
      refine LX11_has hv14 rfl (by rw [show gClauses_depth S (α 5) = V.fI 5 4 from (mg_I (i := 5) R (by decide) rfl 4)]) ?_
      refine mIf h Iff.rfl (fun c4 h => ?_) (fun c4 h => ?_)
      · refine mLet h rfl (fun x20 ex20 h => ?_)
        exact ih _ _ _ _ _ R sl1A h (fun S1 R1 F1 => k S1 R1 F1)
      · obtain ⟨V21, eV21, h⟩ := mLt_some h
        refine mU_F eV21 R (by decide) rfl (by rw [show gClauses_ones S (α 5) = V.fI 5 5 from (mg_I (i := 5) R (by decide) rfl 5)]) (fun S21 R21 F21 => ?_)
        refine mLet h rfl (fun x22 ex22 h => ?_)
        exact ih _ _ _ _ _ R21 sl1A h (fun S1 R1 F1 => k S1 R1 (F21.tr F1))
set_option maxHeartbeats 4000000 in
set_option maxRecDepth 100000 in
theorem LX1_isFulfilled {α : Nat → Nat} {F : Nat} {S : wPS} {Ln : Nat → Nat} {V V1 : mV} {v : Int32} {Φ : (Int32 → wPS → Prop)} {l0Ax : Nat} {l1Ax : Nat} {l1A : Nat} {l2Ix l2I : Int32} (h : mX1_isFulfilled F l1A l2I V = some (v, V1)) (R : mRel α S Ln V) (sl1A : mK l1A = 3) (el0A : l0Ax = α 5) (el1A : l1Ax = α l1A) (el2I : l2Ix = l2I) (k : (∀ S1, mRel α S1 Ln V1 → mFr α S S1 → Φ v S1)) : rX1_isFulfilled F l0Ax l1Ax l2Ix S Φ := by
  have el0A := el0A.symm
  subst el0A
  have el1A := el1A.symm
  subst el1A
  have el2I := el2I.symm
  subst el2I
  have ih := LX1_isFulfilled_go  (α := α) (F := F) (v := v) (Ln := Ln) (Φ := Φ) (V1 := V1) F
  unfold mX1_isFulfilled mX1_isFulfilled_s at h
  unfold rX1_isFulfilled rX1_isFulfilled_s
  obtain ⟨V23, eV23, h⟩ := mLt_some h
  refine mU_F eV23 R (by decide) rfl (by rw [show gEntry_size S (α l1A) = V.fI l1A 1 from (mg_I (i := l1A) R (mO3 sl1A) rfl 1)]) (fun S23 R23 F23 => ?_)
  obtain ⟨V24, eV24, h⟩ := mLt_some h
  refine mU_F eV24 R23 (by decide) rfl rfl (fun S24 R24 F24 => ?_)
  exact ih _ _ _ _ _ R24 sl1A h (fun S1 R1 F1 => k S1 R1 (F23.tr (F24.tr F1)))
def mX2_fillsFrom_b0 (F : Nat) (rc : Int32 → mV → Option (Int32 × mV)) (rec : Nat → Int32 → Int32 → Int32 → Int32 → mV → Option (Int32 × mV)) (l1I : Int32) (s0I : Int32) (V : mV) : Option (Int32 × mV) :=
  (if s0I = 0 then (if l1I < (V.fI 3 9) then (if l1I < 0 ∨ 22 ≤ (l1I).toNatClampNeg then none else (mLt (V.rI 30 (l1I).toNatClampNeg) fun x4 => (rec 1 (l1I) (x4) ((0 : Int32)) 0 V))) else some ((1 : Int32), V)) else (if (l1I - (1 : Int32)) < 0 ∨ 22 ≤ ((l1I - (1 : Int32))).toNatClampNeg then none else (mBN (mX2_countWalks F ((V.rI 30 ((l1I - (1 : Int32))).toNatClampNeg)) V) fun v6 => (if (l1I - (1 : Int32)) < 0 ∨ 22 ≤ ((l1I - (1 : Int32))).toNatClampNeg then none else (if (V.rI 30 ((l1I - (1 : Int32))).toNatClampNeg) < 0 ∨ 7 ≤ ((V.rI 30 ((l1I - (1 : Int32))).toNatClampNeg)).toNatClampNeg then none else (if v6 = (V.rI 33 ((V.rI 30 ((l1I - (1 : Int32))).toNatClampNeg)).toNatClampNeg) then (if l1I < (V.fI 3 9) then (if l1I < 0 ∨ 22 ≤ (l1I).toNatClampNeg then none else (mLt (V.rI 30 (l1I).toNatClampNeg) fun x16 => (rec 1 (l1I) (x16) ((0 : Int32)) 0 V))) else some ((1 : Int32), V)) else some ((0 : Int32), V)))))))
def mX2_fillsFrom_b1 (F : Nat) (rc : Int32 → mV → Option (Int32 × mV)) (rec : Nat → Int32 → Int32 → Int32 → Int32 → mV → Option (Int32 × mV)) (l1I : Int32) (l3I : Int32) (l4I : Int32) (V : mV) : Option (Int32 × mV) :=
  (if (V.fI 3 8) ≤ l4I then some ((0 : Int32), V) else (if l3I < 0 ∨ 7 ≤ (l3I).toNatClampNeg then none else (if l3I < 0 ∨ 7 ≤ (l3I).toNatClampNeg then none else (mBN (mX11_has F (((V.rI 27 (l3I).toNatClampNeg) &&& ((V.rI 28 (l3I).toNatClampNeg) ^^^ (-1 : Int32)))) (l4I)) fun v20 => (if v20 = 0 then (mLt (l4I + (1 : Int32)) fun x26 => (rec 1 (l1I) (l3I) (x26) 0 V)) else (mBW (mX2_setPlace F (l1I) (l4I) V) fun v27 V28 => (if l3I < 0 ∨ 7 ≤ (l3I).toNatClampNeg then none else (if l3I < 0 ∨ 7 ≤ (l3I).toNatClampNeg then none else (mLt (mI V28 28 (l3I) (((V28.rI 28 (l3I).toNatClampNeg) ||| ((1 : Int32) <<< (l4I &&& 31))))) fun V34 => (mBW (rc ((l1I + (1 : Int32))) V34) fun v35 V36 => (if v35 = 0 then (if l3I < 0 ∨ 7 ≤ (l3I).toNatClampNeg then none else (if l3I < 0 ∨ 7 ≤ (l3I).toNatClampNeg then none else (mLt (mI V36 28 (l3I) (((V36.rI 28 (l3I).toNatClampNeg) &&& (((1 : Int32) <<< (l4I &&& 31)) ^^^ (-1 : Int32))))) fun V43 => (if l3I < 0 ∨ 7 ≤ (l3I).toNatClampNeg then none else (if l1I = (V43.rI 29 (l3I).toNatClampNeg) then some ((0 : Int32), V43) else (mLt (l4I + (1 : Int32)) fun x46 => (rec 1 (l1I) (l3I) (x46) 0 V43))))))) else some ((1 : Int32), V36))))))))))))
def mX2_fillsFrom_go (F : Nat) (rc : Int32 → mV → Option (Int32 × mV)) : Nat → Nat → Int32 → Int32 → Int32 → Int32 → mV → Option (Int32 × mV)
  | 0, _, _, _, _, _, _ => none
  | k' + 1, lab, l1I, l3I, l4I, s0I, V => if lab = 0 then mX2_fillsFrom_b0 F rc (mX2_fillsFrom_go F rc k') l1I s0I V else if lab = 1 then mX2_fillsFrom_b1 F rc (mX2_fillsFrom_go F rc k') l1I l3I l4I V else none
def mX2_fillsFrom_s (F : Nat) (rc : Int32 → mV → Option (Int32 × mV)) (rec : Nat → Int32 → Int32 → Int32 → Int32 → mV → Option (Int32 × mV)) (l1I : Int32) (V : mV) : Option (Int32 × mV) :=
  (if l1I ≤ 0 then (rec 0 (l1I) 0 0 ((0 : Int32)) V) else (if l1I = (V.fI 3 9) then (rec 0 (l1I) 0 0 ((1 : Int32)) V) else (if l1I < 0 ∨ 22 ≤ (l1I).toNatClampNeg then none else (if (l1I - (1 : Int32)) < 0 ∨ 22 ≤ ((l1I - (1 : Int32))).toNatClampNeg then none else (if (V.rI 30 (l1I).toNatClampNeg) = (V.rI 30 ((l1I - (1 : Int32))).toNatClampNeg) then (rec 0 (l1I) 0 0 ((0 : Int32)) V) else (rec 0 (l1I) 0 0 ((1 : Int32)) V))))))
def mX2_fillsFrom_a (F : Nat) (rc : Int32 → mV → Option (Int32 × mV)) (l1I : Int32) (V : mV) : Option (Int32 × mV) := mX2_fillsFrom_s F rc (mX2_fillsFrom_go F rc F) l1I V
def mX2_fillsFrom (F : Nat) : Nat → Int32 → mV → Option (Int32 × mV)
  | 0, _, _ => none
  | j + 1, l1I, V => mX2_fillsFrom_a F (mX2_fillsFrom F j) l1I V
set_option maxHeartbeats 4000000 in
set_option maxRecDepth 100000 in
theorem LX2_fillsFrom_go {α : Nat → Nat} {rc0 : Nat → Int32 → wPS → (Int32 → wPS → Prop) → Prop} {rc : Int32 → mV → Option (Int32 × mV)} (hrc : ∀ {S : wPS} {Ln : Nat → Nat} {V V1 : mV} {v : Int32}  {l0Ax : Nat} {l1Ix l1I : Int32} {Φ : (Int32 → wPS → Prop)}, rc l1I V = some (v, V1) → mRel α S Ln V → l0Ax = α 3 → l1Ix = l1I → (∀ S1, mRel α S1 Ln V1 → mFr α S S1 → Φ v S1) → rc0  l0Ax l1Ix S Φ) {F : Nat} {Ln : Nat → Nat} {v : Int32} {V1 : mV} {Φ : (Int32 → wPS → Prop)} : ∀ k' : Nat, (∀ (l1I : Int32) (s0I : Int32) (S : wPS) (V : mV) , mRel α S Ln V → mX2_fillsFrom_go F rc k' 0 l1I 0 0 s0I V = some (v, V1) → (∀ S1, mRel α S1 Ln V1 → mFr α S S1 → Φ v S1) → rX2_fillsFrom_go F rc0 k' 0 (α 3) l1I 0 0 s0I S Φ) ∧ (∀ (l1I : Int32) (l3I : Int32) (l4I : Int32) (S : wPS) (V : mV) , mRel α S Ln V → mX2_fillsFrom_go F rc k' 1 l1I l3I l4I 0 V = some (v, V1) → (∀ S1, mRel α S1 Ln V1 → mFr α S S1 → Φ v S1) → rX2_fillsFrom_go F rc0 k' 1 (α 3) l1I l3I l4I 0 S Φ) := by
  intro k'
  induction k' with
  | zero => exact ⟨(fun _ _ _ _ _ h _ => by cases h), (fun _ _ _ _ _ _ h _ => by cases h)⟩
  | succ k' ih =>
    refine ⟨?_, ?_⟩
    · intro l1I s0I S V R h k
      rw [mX2_fillsFrom_go, if_pos rfl] at h
      rw [rX2_fillsFrom_go, if_pos rfl]
      unfold mX2_fillsFrom_b0 at h
      unfold rX2_fillsFrom_b0
      refine mIf h Iff.rfl (fun c1 h => ?_) (fun c1 h => ?_)
      · refine mIf h (by rw [show gDrawings_places S (α 3) = V.fI 3 9 from (mg_I (i := 3) R (by decide) rfl 9)]) (fun c2 h => ?_) (fun c2 h => ?_)
        · refine mGd h (by rw [show S.len (wkAd (gDrawings_owner S (α 3))) = 22 from (mg_len (i := 30) R (mA13 rfl) (mg_A (t := 30) R rfl rfl))]) (fun c3 h => ?_)
          refine mLet h (by rw [show S.rI (wkAd (gDrawings_owner S (α 3))) (l1I).toNatClampNeg = V.rI 30 (l1I).toNatClampNeg from (mg_rI (i := 30) R (mA13 rfl) (mg_A (t := 30) R rfl rfl) rfl)]) (fun x4 ex4 h => ?_)
          exact ih.2 _ _ _ _ _ R h (fun S1 R1 F1 => k S1 R1 F1)
        · obtain ⟨rfl, rfl⟩ := mRW h
          exact k _ R mFr.rf
      · refine mGd h (by rw [show S.len (wkAd (gDrawings_owner S (α 3))) = 22 from (mg_len (i := 30) R (mA13 rfl) (mg_A (t := 30) R rfl rfl))]) (fun c4 h => ?_)
        obtain ⟨v6, hv6, h⟩ := mBN_some h
        refine LX2_countWalks hv6 R rfl (by rw [show S.rI (wkAd (gDrawings_owner S (α 3))) ((l1I - (1 : Int32))).toNatClampNeg = V.rI 30 ((l1I - (1 : Int32))).toNatClampNeg from (mg_rI (i := 30) R (mA13 rfl) (mg_A (t := 30) R rfl rfl) rfl)]) ?_
        refine mGd h (by rw [show S.len (wkAd (gDrawings_owner S (α 3))) = 22 from (mg_len (i := 30) R (mA13 rfl) (mg_A (t := 30) R rfl rfl))]) (fun c5 h => ?_)
        refine mGd h (by rw [show S.rI (wkAd (gDrawings_owner S (α 3))) ((l1I - (1 : Int32))).toNatClampNeg = V.rI 30 ((l1I - (1 : Int32))).toNatClampNeg from (mg_rI (i := 30) R (mA13 rfl) (mg_A (t := 30) R rfl rfl) rfl), show S.len (wkAd (gDrawings_walksDue S (α 3))) = 7 from (mg_len (i := 33) R (mA13 rfl) (mg_A (t := 33) R rfl rfl))]) (fun c6 h => ?_)
        refine mIf h (by rw [show S.rI (wkAd (gDrawings_walksDue S (α 3))) ((S.rI (wkAd (gDrawings_owner S (α 3))) ((l1I - (1 : Int32))).toNatClampNeg)).toNatClampNeg = V.rI 33 ((V.rI 30 ((l1I - (1 : Int32))).toNatClampNeg)).toNatClampNeg from (mg_rI (i := 33) R (mA13 rfl) (mg_A (t := 33) R rfl rfl) (by rw [show S.rI (wkAd (gDrawings_owner S (α 3))) ((l1I - (1 : Int32))).toNatClampNeg = V.rI 30 ((l1I - (1 : Int32))).toNatClampNeg from (mg_rI (i := 30) R (mA13 rfl) (mg_A (t := 30) R rfl rfl) rfl)]))]) (fun c7 h => ?_) (fun c7 h => ?_)
        · refine mIf h (by rw [show gDrawings_places S (α 3) = V.fI 3 9 from (mg_I (i := 3) R (by decide) rfl 9)]) (fun c8 h => ?_) (fun c8 h => ?_)
          · refine mGd h (by rw [show S.len (wkAd (gDrawings_owner S (α 3))) = 22 from (mg_len (i := 30) R (mA13 rfl) (mg_A (t := 30) R rfl rfl))]) (fun c9 h => ?_)
            refine mLet h (by rw [show S.rI (wkAd (gDrawings_owner S (α 3))) (l1I).toNatClampNeg = V.rI 30 (l1I).toNatClampNeg from (mg_rI (i := 30) R (mA13 rfl) (mg_A (t := 30) R rfl rfl) rfl)]) (fun x16 ex16 h => ?_)
            exact ih.2 _ _ _ _ _ R h (fun S1 R1 F1 => k S1 R1 F1)
          · obtain ⟨rfl, rfl⟩ := mRW h
            exact k _ R mFr.rf
        · obtain ⟨rfl, rfl⟩ := mRW h
          exact k _ R mFr.rf
    · intro l1I l3I l4I S V R h k
      rw [mX2_fillsFrom_go, if_neg (by decide), if_pos rfl] at h
      rw [rX2_fillsFrom_go, if_neg (by decide), if_pos rfl]
      unfold mX2_fillsFrom_b1 at h
      unfold rX2_fillsFrom_b1
      refine mIf h (by rw [show gDrawings_nodeCount S (α 3) = V.fI 3 8 from (mg_I (i := 3) R (by decide) rfl 8)]) (fun c10 h => ?_) (fun c10 h => ?_)
      · obtain ⟨rfl, rfl⟩ := mRW h
        exact k _ R mFr.rf
      · refine mGd h (by rw [show S.len (wkAd (gDrawings_near S (α 3))) = 7 from (mg_len (i := 27) R (mA13 rfl) (mg_A (t := 27) R rfl rfl))]) (fun c11 h => ?_)
        refine mGd h (by rw [show S.len (wkAd (gDrawings_used S (α 3))) = 7 from (mg_len (i := 28) R (mA13 rfl) (mg_A (t := 28) R rfl rfl))]) (fun c12 h => ?_)
        obtain ⟨v20, hv20, h⟩ := mBN_some h
        refine LX11_has hv20 (by rw [show S.rI (wkAd (gDrawings_near S (α 3))) (l3I).toNatClampNeg = V.rI 27 (l3I).toNatClampNeg from (mg_rI (i := 27) R (mA13 rfl) (mg_A (t := 27) R rfl rfl) rfl), show S.rI (wkAd (gDrawings_used S (α 3))) (l3I).toNatClampNeg = V.rI 28 (l3I).toNatClampNeg from (mg_rI (i := 28) R (mA13 rfl) (mg_A (t := 28) R rfl rfl) rfl)]) rfl ?_
        refine mIf h Iff.rfl (fun c13 h => ?_) (fun c13 h => ?_)
        · refine mLet h rfl (fun x26 ex26 h => ?_)
          exact ih.2 _ _ _ _ _ R h (fun S1 R1 F1 => k S1 R1 F1)
        · obtain ⟨v27, V28, hv27, h⟩ := mBW_some h
          refine LX2_setPlace hv27 R rfl rfl rfl (fun S28 R28 F28 => ?_)
          refine mGd h (by rw [show S28.len (wkAd (gDrawings_used S28 (α 3))) = 7 from (mg_len (i := 28) R28 (mA13 rfl) (mg_A (t := 28) R28 rfl rfl))]) (fun c14 h => ?_)
          refine mGd h (by rw [show S28.len (wkAd (gDrawings_used S28 (α 3))) = 7 from (mg_len (i := 28) R28 (mA13 rfl) (mg_A (t := 28) R28 rfl rfl))]) (fun c15 h => ?_)
          obtain ⟨V34, eV34, h⟩ := mLt_some h
          refine mU_I eV34 R28 (mA13 rfl) (mg_A (t := 28) R28 rfl rfl) rfl (by rw [show S28.rI (wkAd (gDrawings_used S28 (α 3))) (l3I).toNatClampNeg = V28.rI 28 (l3I).toNatClampNeg from (mg_rI (i := 28) R28 (mA13 rfl) (mg_A (t := 28) R28 rfl rfl) rfl)]) (fun S34 R34 F34 => ?_)
          obtain ⟨v35, V36, hv35, h⟩ := mBW_some h
          refine hrc hv35 R34 rfl rfl (fun S36 R36 F36 => ?_)
          refine mIf h Iff.rfl (fun c16 h => ?_) (fun c16 h => ?_)
          · refine mGd h (by rw [show S36.len (wkAd (gDrawings_used S36 (α 3))) = 7 from (mg_len (i := 28) R36 (mA13 rfl) (mg_A (t := 28) R36 rfl rfl))]) (fun c17 h => ?_)
            refine mGd h (by rw [show S36.len (wkAd (gDrawings_used S36 (α 3))) = 7 from (mg_len (i := 28) R36 (mA13 rfl) (mg_A (t := 28) R36 rfl rfl))]) (fun c18 h => ?_)
            obtain ⟨V43, eV43, h⟩ := mLt_some h
            refine mU_I eV43 R36 (mA13 rfl) (mg_A (t := 28) R36 rfl rfl) rfl (by rw [show S36.rI (wkAd (gDrawings_used S36 (α 3))) (l3I).toNatClampNeg = V36.rI 28 (l3I).toNatClampNeg from (mg_rI (i := 28) R36 (mA13 rfl) (mg_A (t := 28) R36 rfl rfl) rfl)]) (fun S43 R43 F43 => ?_)
            refine mGd h (by rw [show S43.len (wkAd (gDrawings_firstPlace S43 (α 3))) = 7 from (mg_len (i := 29) R43 (mA13 rfl) (mg_A (t := 29) R43 rfl rfl))]) (fun c19 h => ?_)
            refine mIf h (by rw [show S43.rI (wkAd (gDrawings_firstPlace S43 (α 3))) (l3I).toNatClampNeg = V43.rI 29 (l3I).toNatClampNeg from (mg_rI (i := 29) R43 (mA13 rfl) (mg_A (t := 29) R43 rfl rfl) rfl)]) (fun c20 h => ?_) (fun c20 h => ?_)
            · obtain ⟨rfl, rfl⟩ := mRW h
              exact k _ R43 (F28.tr (F34.tr (F36.tr F43)))
            · refine mLet h rfl (fun x46 ex46 h => ?_)
              exact ih.2 _ _ _ _ _ R43 h (fun S1 R1 F1 => k S1 R1 (F28.tr (F34.tr (F36.tr (F43.tr F1)))))
          · obtain ⟨rfl, rfl⟩ := mRW h
            exact k _ R36 (F28.tr (F34.tr F36))
set_option maxHeartbeats 4000000 in
set_option maxRecDepth 100000 in
theorem LX2_fillsFrom_a {α : Nat → Nat} {F : Nat} {S : wPS} {Ln : Nat → Nat} {V V1 : mV} {v : Int32} {Φ : (Int32 → wPS → Prop)} {l0Ax : Nat} {l1Ix l1I : Int32} {rc0 : Nat → Int32 → wPS → (Int32 → wPS → Prop) → Prop} {rc : Int32 → mV → Option (Int32 × mV)} (hrc : ∀ {S : wPS} {Ln : Nat → Nat} {V V1 : mV} {v : Int32}  {l0Ax : Nat} {l1Ix l1I : Int32} {Φ : (Int32 → wPS → Prop)}, rc l1I V = some (v, V1) → mRel α S Ln V → l0Ax = α 3 → l1Ix = l1I → (∀ S1, mRel α S1 Ln V1 → mFr α S S1 → Φ v S1) → rc0  l0Ax l1Ix S Φ) (h : mX2_fillsFrom_a F rc l1I V = some (v, V1)) (R : mRel α S Ln V) (el0A : l0Ax = α 3) (el1I : l1Ix = l1I) (k : (∀ S1, mRel α S1 Ln V1 → mFr α S S1 → Φ v S1)) : rX2_fillsFrom_a F rc0 l0Ax l1Ix S Φ := by
  have el0A := el0A.symm
  subst el0A
  have el1I := el1I.symm
  subst el1I
  have ih := LX2_fillsFrom_go  (α := α) (F := F) (v := v) (Ln := Ln) (Φ := Φ) (V1 := V1) (rc0 := rc0) (rc := rc) @hrc F
  unfold mX2_fillsFrom_a mX2_fillsFrom_s at h
  unfold rX2_fillsFrom_a rX2_fillsFrom_s
  refine mIf h Iff.rfl (fun c21 h => ?_) (fun c21 h => ?_)
  · exact ih.1 _ _ _ _ R h (fun S1 R1 F1 => k S1 R1 F1)
  · refine mIf h (by rw [show gDrawings_places S (α 3) = V.fI 3 9 from (mg_I (i := 3) R (by decide) rfl 9)]) (fun c22 h => ?_) (fun c22 h => ?_)
    · exact ih.1 _ _ _ _ R h (fun S1 R1 F1 => k S1 R1 F1)
    · refine mGd h (by rw [show S.len (wkAd (gDrawings_owner S (α 3))) = 22 from (mg_len (i := 30) R (mA13 rfl) (mg_A (t := 30) R rfl rfl))]) (fun c23 h => ?_)
      refine mGd h (by rw [show S.len (wkAd (gDrawings_owner S (α 3))) = 22 from (mg_len (i := 30) R (mA13 rfl) (mg_A (t := 30) R rfl rfl))]) (fun c24 h => ?_)
      refine mIf h (by rw [show S.rI (wkAd (gDrawings_owner S (α 3))) ((l1I - (1 : Int32))).toNatClampNeg = V.rI 30 ((l1I - (1 : Int32))).toNatClampNeg from (mg_rI (i := 30) R (mA13 rfl) (mg_A (t := 30) R rfl rfl) rfl), show S.rI (wkAd (gDrawings_owner S (α 3))) (l1I).toNatClampNeg = V.rI 30 (l1I).toNatClampNeg from (mg_rI (i := 30) R (mA13 rfl) (mg_A (t := 30) R rfl rfl) rfl)]) (fun c25 h => ?_) (fun c25 h => ?_)
      · exact ih.1 _ _ _ _ R h (fun S1 R1 F1 => k S1 R1 F1)
      · exact ih.1 _ _ _ _ R h (fun S1 R1 F1 => k S1 R1 F1)
theorem LX2_fillsFrom_d {α : Nat → Nat} {F : Nat} : ∀ (j : Nat) {S : wPS} {Ln : Nat → Nat} {V V1 : mV} {v : Int32} {Φ : (Int32 → wPS → Prop)} {l0Ax : Nat} {l1Ix l1I : Int32}, mX2_fillsFrom F j l1I V = some (v, V1) → mRel α S Ln V → l0Ax = α 3 → l1Ix = l1I → (∀ S1, mRel α S1 Ln V1 → mFr α S S1 → Φ v S1) → rX2_fillsFrom F j l0Ax l1Ix S Φ := by
  intro j
  induction j with
  | zero => intro _ _ _ _ _ _ _ _ _ h; cases h
  | succ j ih =>
    intro _ _ _ _ _ _ _ _ _ h R a0 a1 k
    exact LX2_fillsFrom_a (rc := mX2_fillsFrom F j) (hrc := fun h => ih h) h R a0 a1 k
theorem LX2_fillsFrom {α : Nat → Nat} {F j : Nat} {S : wPS} {Ln : Nat → Nat} {V V1 : mV} {v : Int32} {Φ : (Int32 → wPS → Prop)} {l0Ax : Nat} {l1Ix l1I : Int32} (h : mX2_fillsFrom F j l1I V = some (v, V1)) (R : mRel α S Ln V) (el0A : l0Ax = α 3) (el1I : l1Ix = l1I) (k : (∀ S1, mRel α S1 Ln V1 → mFr α S S1 → Φ v S1)) : rX2_fillsFrom F j l0Ax l1Ix S Φ := LX2_fillsFrom_d j h R el0A el1I k
end
