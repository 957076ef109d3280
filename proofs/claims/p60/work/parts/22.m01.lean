/-! LIFTED BY PROGRAM (lift.py): X1_begin, X1_derive, X1_deriveAt, X2_countedItems, X2_setPlace, X3_begin, X3_copyQuestion, X3_at, X3_setItem, X3_addItem, X3_addTo, X3_countUnlike, X3_removeItem, X3_isSameQuestion, X3_tell, X3_nodeAsked, X4_isWithin. -/
section
def mX1_begin (F : Nat) (V : mV) : Option (Unit × mV) :=
  (mLt (mF V 5 4 ((0 : Int32))) fun V1 => (mLt (mF V1 5 5 ((0 : Int32))) fun V2 => (mLt (mF V2 5 6 ((0 : Int32))) fun V3 => (mLt (mF V3 5 2 ((0 : Int32))) fun V4 => (mLt (mF V4 5 3 ((0 : Int32))) fun V5 => some ((), V5))))))
set_option maxHeartbeats 4000000 in
set_option maxRecDepth 100000 in
theorem LX1_begin {α : Nat → Nat} {F : Nat} {S : wPS} {Ln : Nat → Nat} {V V1 : mV} {v : Unit} {Φ : (Unit → wPS → Prop)} {l0Ax : Nat} (h : mX1_begin F V = some (v, V1)) (R : mRel α S Ln V) (el0A : l0Ax = α 5) (k : (∀ S1, mRel α S1 Ln V1 → mFr α S S1 → Φ v S1)) : rX1_begin F l0Ax S Φ := by
  have el0A := el0A.symm
  subst el0A
  unfold mX1_begin at h
  unfold rX1_begin
  obtain ⟨V1, eV1, h⟩ := mLt_some h
  refine mU_F eV1 R (by decide) rfl rfl (fun S1 R1 F1 => ?_)
  obtain ⟨V2, eV2, h⟩ := mLt_some h
  refine mU_F eV2 R1 (by decide) rfl rfl (fun S2 R2 F2 => ?_)
  obtain ⟨V3, eV3, h⟩ := mLt_some h
  refine mU_F eV3 R2 (by decide) rfl rfl (fun S3 R3 F3 => ?_)
  obtain ⟨V4, eV4, h⟩ := mLt_some h
  refine mU_F eV4 R3 (by decide) rfl rfl (fun S4 R4 F4 => ?_)
  obtain ⟨V5, eV5, h⟩ := mLt_some h
  refine mU_F eV5 R4 (by decide) rfl rfl (fun S5 R5 F5 => ?_)
  obtain ⟨rfl, rfl⟩ := mRW h
  exact k _ R5 (F1.tr (F2.tr (F3.tr (F4.tr F5))))
def mX1_derive (F : Nat) (l1I : Int32) (V : mV) : Option (Unit × mV) :=
  (if (128 : Int32) ≤ (V.fI 5 2) then (if (Int32.ofNat (8)) ≤ (V.fI 5 3) then some ((), V) else (if (V.fI 5 3) < 0 ∨ 8 ≤ ((V.fI 5 3)).toNatClampNeg then none else (mLt (mI V 52 ((V.fI 5 3)) (l1I)) fun V4 => (mLt (mF V4 5 3 (((V4.fI 5 3) + (1 : Int32)))) fun V5 => some ((), V5))))) else (if (V.fI 5 2) < 0 ∨ 128 ≤ ((V.fI 5 2)).toNatClampNeg then none else (mLt (mI V 53 ((V.fI 5 2)) (l1I)) fun V7 => (mLt (mF V7 5 2 (((V7.fI 5 2) + (1 : Int32)))) fun V8 => (if (Int32.ofNat (8)) ≤ (V8.fI 5 3) then some ((), V8) else (if (V8.fI 5 3) < 0 ∨ 8 ≤ ((V8.fI 5 3)).toNatClampNeg then none else (mLt (mI V8 52 ((V8.fI 5 3)) (l1I)) fun V11 => (mLt (mF V11 5 3 (((V11.fI 5 3) + (1 : Int32)))) fun V12 => some ((), V12)))))))))
set_option maxHeartbeats 4000000 in
set_option maxRecDepth 100000 in
theorem LX1_derive {α : Nat → Nat} {F : Nat} {S : wPS} {Ln : Nat → Nat} {V V1 : mV} {v : Unit} {Φ : (Unit → wPS → Prop)} {l0Ax : Nat} {l1Ix l1I : Int32} (h : mX1_derive F l1I V = some (v, V1)) (R : mRel α S Ln V) (el0A : l0Ax = α 5) (el1I : l1Ix = l1I) (k : (∀ S1, mRel α S1 Ln V1 → mFr α S S1 → Φ v S1)) : rX1_derive F l0Ax l1Ix S Φ := by
  have el0A := el0A.symm
  subst el0A
  have el1I := el1I.symm
  subst el1I
  unfold mX1_derive at h
  unfold rX1_derive
  refine mIf h (by rw [show gClauses_codeCount S (α 5) = V.fI 5 2 from (mg_I (i := 5) R (by decide) rfl 2)]) (fun c1 h => ?_) (fun c1 h => ?_)
  · refine mIf h (by rw [show S.len (wkAd (gClauses_stack S (α 5))) = 8 from (mg_len (i := 52) R (mA13 rfl) (mg_A (t := 52) R rfl rfl)), show gClauses_stackCount S (α 5) = V.fI 5 3 from (mg_I (i := 5) R (by decide) rfl 3)]) (fun c2 h => ?_) (fun c2 h => ?_)
    · obtain ⟨rfl, rfl⟩ := mRW h
      exact k _ R mFr.rf
    · refine mGd h (by rw [show S.len (wkAd (gClauses_stack S (α 5))) = 8 from (mg_len (i := 52) R (mA13 rfl) (mg_A (t := 52) R rfl rfl)), show gClauses_stackCount S (α 5) = V.fI 5 3 from (mg_I (i := 5) R (by decide) rfl 3)]) (fun c3 h => ?_)
      obtain ⟨V4, eV4, h⟩ := mLt_some h
      refine mU_I eV4 R (mA13 rfl) (mg_A (t := 52) R rfl rfl) (by rw [show gClauses_stackCount S (α 5) = V.fI 5 3 from (mg_I (i := 5) R (by decide) rfl 3)]) rfl (fun S4 R4 F4 => ?_)
      obtain ⟨V5, eV5, h⟩ := mLt_some h
      refine mU_F eV5 R4 (by decide) rfl (by rw [show gClauses_stackCount S4 (α 5) = V4.fI 5 3 from (mg_I (i := 5) R4 (by decide) rfl 3)]) (fun S5 R5 F5 => ?_)
      obtain ⟨rfl, rfl⟩ := mRW h
      exact k _ R5 (F4.tr F5)
  · refine mGd h (by rw [show S.len (wkAd (gClauses_codes S (α 5))) = 128 from (mg_len (i := 53) R (mA13 rfl) (mg_A (t := 53) R rfl rfl)), show gClauses_codeCount S (α 5) = V.fI 5 2 from (mg_I (i := 5) R (by decide) rfl 2)]) (fun c4 h => ?_)
    obtain ⟨V7, eV7, h⟩ := mLt_some h
    refine mU_I eV7 R (mA13 rfl) (mg_A (t := 53) R rfl rfl) (by rw [show gClauses_codeCount S (α 5) = V.fI 5 2 from (mg_I (i := 5) R (by decide) rfl 2)]) rfl (fun S7 R7 F7 => ?_)
    obtain ⟨V8, eV8, h⟩ := mLt_some h
    refine mU_F eV8 R7 (by decide) rfl (by rw [show gClauses_codeCount S7 (α 5) = V7.fI 5 2 from (mg_I (i := 5) R7 (by decide) rfl 2)]) (fun S8 R8 F8 => ?_)
    refine mIf h (by rw [show S8.len (wkAd (gClauses_stack S8 (α 5))) = 8 from (mg_len (i := 52) R8 (mA13 rfl) (mg_A (t := 52) R8 rfl rfl)), show gClauses_stackCount S8 (α 5) = V8.fI 5 3 from (mg_I (i := 5) R8 (by decide) rfl 3)]) (fun c5 h => ?_) (fun c5 h => ?_)
    · obtain ⟨rfl, rfl⟩ := mRW h
      exact k _ R8 (F7.tr F8)
    · refine mGd h (by rw [show S8.len (wkAd (gClauses_stack S8 (α 5))) = 8 from (mg_len (i := 52) R8 (mA13 rfl) (mg_A (t := 52) R8 rfl rfl)), show gClauses_stackCount S8 (α 5) = V8.fI 5 3 from (mg_I (i := 5) R8 (by decide) rfl 3)]) (fun c6 h => ?_)
      obtain ⟨V11, eV11, h⟩ := mLt_some h
      refine mU_I eV11 R8 (mA13 rfl) (mg_A (t := 52) R8 rfl rfl) (by rw [show gClauses_stackCount S8 (α 5) = V8.fI 5 3 from (mg_I (i := 5) R8 (by decide) rfl 3)]) rfl (fun S11 R11 F11 => ?_)
      obtain ⟨V12, eV12, h⟩ := mLt_some h
      refine mU_F eV12 R11 (by decide) rfl (by rw [show gClauses_stackCount S11 (α 5) = V11.fI 5 3 from (mg_I (i := 5) R11 (by decide) rfl 3)]) (fun S12 R12 F12 => ?_)
      obtain ⟨rfl, rfl⟩ := mRW h
      exact k _ R12 (F7.tr (F8.tr (F11.tr F12)))
def mX1_deriveAt (F : Nat) (l1I : Int32) (V : mV) : Option (Unit × mV) :=
  (if (2 : Int32) ≤ (V.fI 5 3) then (if ((V.fI 5 3) - (2 : Int32)) < 0 ∨ 8 ≤ (((V.fI 5 3) - (2 : Int32))).toNatClampNeg then none else (mLt (V.rI 52 (((V.fI 5 3) - (2 : Int32))).toNatClampNeg) fun x3 => (if ((V.fI 5 3) - (1 : Int32)) < 0 ∨ 8 ≤ (((V.fI 5 3) - (1 : Int32))).toNatClampNeg then none else (mLt (V.rI 52 (((V.fI 5 3) - (1 : Int32))).toNatClampNeg) fun x5 => (mLt ((1 : Int32) <<< (l1I &&& 31)) fun x6 => (mLt ((64 : Int32) <<< (l1I &&& 31)) fun x7 => (mLt (mF V 5 3 (((V.fI 5 3) - (2 : Int32)))) fun V8 => (if (x3 &&& x6) = 0 then (mBW (mX1_derive F (x3) V8) fun v21 V22 => some ((), V22)) else (if (x5 &&& x7) = 0 then (mBW (mX1_derive F (x5) V8) fun v16 V17 => some ((), V17)) else (mBW (mX1_derive F (((x3 &&& (x6 ^^^ (-1 : Int32))) ||| (x5 &&& (x7 ^^^ (-1 : Int32))))) V8) fun v11 V12 => some ((), V12))))))))))) else some ((), V))
set_option maxHeartbeats 4000000 in
set_option maxRecDepth 100000 in
theorem LX1_deriveAt {α : Nat → Nat} {F : Nat} {S : wPS} {Ln : Nat → Nat} {V V1 : mV} {v : Unit} {Φ : (Unit → wPS → Prop)} {l0Ax : Nat} {l1Ix l1I : Int32} (h : mX1_deriveAt F l1I V = some (v, V1)) (R : mRel α S Ln V) (el0A : l0Ax = α 5) (el1I : l1Ix = l1I) (k : (∀ S1, mRel α S1 Ln V1 → mFr α S S1 → Φ v S1)) : rX1_deriveAt F l0Ax l1Ix S Φ := by
  have el0A := el0A.symm
  subst el0A
  have el1I := el1I.symm
  subst el1I
  unfold mX1_deriveAt at h
  unfold rX1_deriveAt
  refine mIf h (by rw [show gClauses_stackCount S (α 5) = V.fI 5 3 from (mg_I (i := 5) R (by decide) rfl 3)]) (fun c1 h => ?_) (fun c1 h => ?_)
  · refine mGd h (by rw [show S.len (wkAd (gClauses_stack S (α 5))) = 8 from (mg_len (i := 52) R (mA13 rfl) (mg_A (t := 52) R rfl rfl)), show gClauses_stackCount S (α 5) = V.fI 5 3 from (mg_I (i := 5) R (by decide) rfl 3)]) (fun c2 h => ?_)
    refine mLet h (by rw [show S.rI (wkAd (gClauses_stack S (α 5))) (((gClauses_stackCount S (α 5)) - (2 : Int32))).toNatClampNeg = V.rI 52 (((V.fI 5 3) - (2 : Int32))).toNatClampNeg from (mg_rI (i := 52) R (mA13 rfl) (mg_A (t := 52) R rfl rfl) (by rw [show gClauses_stackCount S (α 5) = V.fI 5 3 from (mg_I (i := 5) R (by decide) rfl 3)]))]) (fun x3 ex3 h => ?_)
    refine mGd h (by rw [show S.len (wkAd (gClauses_stack S (α 5))) = 8 from (mg_len (i := 52) R (mA13 rfl) (mg_A (t := 52) R rfl rfl)), show gClauses_stackCount S (α 5) = V.fI 5 3 from (mg_I (i := 5) R (by decide) rfl 3)]) (fun c3 h => ?_)
    refine mLet h (by rw [show S.rI (wkAd (gClauses_stack S (α 5))) (((gClauses_stackCount S (α 5)) - (1 : Int32))).toNatClampNeg = V.rI 52 (((V.fI 5 3) - (1 : Int32))).toNatClampNeg from (mg_rI (i := 52) R (mA13 rfl) (mg_A (t := 52) R rfl rfl) (by rw [show gClauses_stackCount S (α 5) = V.fI 5 3 from (mg_I (i := 5) R (by decide) rfl 3)]))]) (fun x5 ex5 h => ?_)
    refine mLet h rfl (fun x6 ex6 h => ?_)
    refine mLet h rfl (fun x7 ex7 h => ?_)
    obtain ⟨V8, eV8, h⟩ := mLt_some h
    refine mU_F eV8 R (by decide) rfl (by rw [show gClauses_stackCount S (α 5) = V.fI 5 3 from (mg_I (i := 5) R (by decide) rfl 3)]) (fun S8 R8 F8 => ?_)
    refine mIf h Iff.rfl (fun c4 h => ?_) (fun c4 h => ?_)
    · obtain ⟨v21, V22, hv21, h⟩ := mBW_some h
      refine LX1_derive hv21 R8 rfl rfl (fun S22 R22 F22 => ?_)
      obtain ⟨rfl, rfl⟩ := mRW h
      exact k _ R22 (F8.tr F22)
    · refine mIf h Iff.rfl (fun c5 h => ?_) (fun c5 h => ?_)
      · obtain ⟨v16, V17, hv16, h⟩ := mBW_some h
        refine LX1_derive hv16 R8 rfl rfl (fun S17 R17 F17 => ?_)
        obtain ⟨rfl, rfl⟩ := mRW h
        exact k _ R17 (F8.tr F17)
      · obtain ⟨v11, V12, hv11, h⟩ := mBW_some h
        refine LX1_derive hv11 R8 rfl rfl (fun S12 R12 F12 => ?_)
        obtain ⟨rfl, rfl⟩ := mRW h
        exact k _ R12 (F8.tr F12)
  · obtain ⟨rfl, rfl⟩ := mRW h
    exact k _ R mFr.rf
def mX2_countedItems (F : Nat) (l0A : Nat) (V : mV) : Option Int32 :=
  some ((((1 : Int32) <<< ((if (V.fI l0A 6) < (V.fI l0A 8) then (V.fI l0A 6) else (V.fI l0A 8)) &&& 31)) - (1 : Int32)))
set_option maxHeartbeats 4000000 in
set_option maxRecDepth 100000 in
theorem LX2_countedItems {α : Nat → Nat} {F : Nat} {S : wPS} {Ln : Nat → Nat} {V : mV} {v : Int32} {Φ : (Int32 → wPS → Prop)} {l0Ax : Nat} {l0A : Nat} (h : mX2_countedItems F l0A V = some v) (R : mRel α S Ln V) (sl0A : mK l0A = 3) (el0A : l0Ax = α l0A) (k : (Φ v S)) : rX2_countedItems F l0Ax S Φ := by
  have el0A := el0A.symm
  subst el0A
  unfold mX2_countedItems at h
  unfold rX2_countedItems
  cases h
  rw [show gEntry_itemCount S (α l0A) = V.fI l0A 6 from (mg_I (i := l0A) R (mO3 sl0A) rfl 6), show gEntry_boundNow S (α l0A) = V.fI l0A 8 from (mg_I (i := l0A) R (mO3 sl0A) rfl 8)]
  exact k
def mX2_setPlace (F : Nat) (l1I : Int32) (l2I : Int32) (V : mV) : Option (Unit × mV) :=
  (if l1I < 0 ∨ 22 ≤ (l1I).toNatClampNeg then none else (mLt (mI V 31 (l1I) (l2I)) fun V2 => (if l1I < 0 ∨ 22 ≤ (l1I).toNatClampNeg then none else (if (((V2.rI 30 (l1I).toNatClampNeg) * (7 : Int32)) + l2I) < 0 ∨ 49 ≤ ((((V2.rI 30 (l1I).toNatClampNeg) * (7 : Int32)) + l2I)).toNatClampNeg then none else (mLt (mI V2 32 ((((V2.rI 30 (l1I).toNatClampNeg) * (7 : Int32)) + l2I)) (l1I)) fun V5 => some ((), V5))))))
set_option maxHeartbeats 4000000 in
set_option maxRecDepth 100000 in
theorem LX2_setPlace {α : Nat → Nat} {F : Nat} {S : wPS} {Ln : Nat → Nat} {V V1 : mV} {v : Unit} {Φ : (Unit → wPS → Prop)} {l0Ax : Nat} {l1Ix l1I : Int32} {l2Ix l2I : Int32} (h : mX2_setPlace F l1I l2I V = some (v, V1)) (R : mRel α S Ln V) (el0A : l0Ax = α 3) (el1I : l1Ix = l1I) (el2I : l2Ix = l2I) (k : (∀ S1, mRel α S1 Ln V1 → mFr α S S1 → Φ v S1)) : rX2_setPlace F l0Ax l1Ix l2Ix S Φ := by
  have el0A := el0A.symm
  subst el0A
  have el1I := el1I.symm
  subst el1I
  have el2I := el2I.symm
  subst el2I
  unfold mX2_setPlace at h
  unfold rX2_setPlace
  refine mGd h (by rw [show S.len (wkAd (gDrawings_ring S (α 3))) = 22 from (mg_len (i := 31) R (mA13 rfl) (mg_A (t := 31) R rfl rfl))]) (fun c1 h => ?_)
  obtain ⟨V2, eV2, h⟩ := mLt_some h
  refine mU_I eV2 R (mA13 rfl) (mg_A (t := 31) R rfl rfl) rfl rfl (fun S2 R2 F2 => ?_)
  refine mGd h (by rw [show S2.len (wkAd (gDrawings_owner S2 (α 3))) = 22 from (mg_len (i := 30) R2 (mA13 rfl) (mg_A (t := 30) R2 rfl rfl))]) (fun c2 h => ?_)
  refine mGd h (by rw [show S2.rI (wkAd (gDrawings_owner S2 (α 3))) (l1I).toNatClampNeg = V2.rI 30 (l1I).toNatClampNeg from (mg_rI (i := 30) R2 (mA13 rfl) (mg_A (t := 30) R2 rfl rfl) rfl), show S2.len (wkAd (gDrawings_spot S2 (α 3))) = 49 from (mg_len (i := 32) R2 (mA13 rfl) (mg_A (t := 32) R2 rfl rfl))]) (fun c3 h => ?_)
  obtain ⟨V5, eV5, h⟩ := mLt_some h
  refine mU_I eV5 R2 (mA13 rfl) (mg_A (t := 32) R2 rfl rfl) (by rw [show S2.rI (wkAd (gDrawings_owner S2 (α 3))) (l1I).toNatClampNeg = V2.rI 30 (l1I).toNatClampNeg from (mg_rI (i := 30) R2 (mA13 rfl) (mg_A (t := 30) R2 rfl rfl) rfl)]) rfl (fun S5 R5 F5 => ?_)
  obtain ⟨rfl, rfl⟩ := mRW h
  exact k _ R5 (F2.tr F5)
def mX3_begin (F : Nat) (l0A : Nat) (l1I : Int32) (l2I : Int32) (l3I : Int32) (V : mV) : Option (Unit × mV) :=
  (mLt (mF V l0A 0 (l1I)) fun V1 => (mLt (mF V1 l0A 1 (l2I)) fun V2 => (mLt (mF V2 l0A 2 (l3I)) fun V3 => (mLt (mF V3 l0A 8 (l3I)) fun V4 => (mLt (mF V4 l0A 3 ((-1 : Int32))) fun V5 => (mLt (mF V5 l0A 4 ((0 : Int32))) fun V6 => (mLt (mF V6 l0A 5 ((-1 : Int32))) fun V7 => (mLt (mF V7 l0A 6 ((0 : Int32))) fun V8 => (mLt (mF V8 l0A 9 ((0 : Int32))) fun V9 => (mLt (mF V9 l0A 14 ((0 : Int32))) fun V10 => some ((), V10)))))))))))
set_option maxHeartbeats 4000000 in
set_option maxRecDepth 100000 in
theorem LX3_begin {α : Nat → Nat} {F : Nat} {S : wPS} {Ln : Nat → Nat} {V V1 : mV} {v : Unit} {Φ : (Unit → wPS → Prop)} {l0Ax : Nat} {l0A : Nat} {l1Ix l1I : Int32} {l2Ix l2I : Int32} {l3Ix l3I : Int32} (h : mX3_begin F l0A l1I l2I l3I V = some (v, V1)) (R : mRel α S Ln V) (sl0A : mK l0A = 3) (el0A : l0Ax = α l0A) (el1I : l1Ix = l1I) (el2I : l2Ix = l2I) (el3I : l3Ix = l3I) (k : (∀ S1, mRel α S1 Ln V1 → mFr α S S1 → Φ v S1)) : rX3_begin F l0Ax l1Ix l2Ix l3Ix S Φ := by
  have el0A := el0A.symm
  subst el0A
  have el1I := el1I.symm
  subst el1I
  have el2I := el2I.symm
  subst el2I
  have el3I := el3I.symm
  subst el3I
  unfold mX3_begin at h
  unfold rX3_begin
  obtain ⟨V1, eV1, h⟩ := mLt_some h
  refine mU_F eV1 R (mO3 sl0A) rfl rfl (fun S1 R1 F1 => ?_)
  obtain ⟨V2, eV2, h⟩ := mLt_some h
  refine mU_F eV2 R1 (mO3 sl0A) rfl rfl (fun S2 R2 F2 => ?_)
  obtain ⟨V3, eV3, h⟩ := mLt_some h
  refine mU_F eV3 R2 (mO3 sl0A) rfl rfl (fun S3 R3 F3 => ?_)
  obtain ⟨V4, eV4, h⟩ := mLt_some h
  refine mU_F eV4 R3 (mO3 sl0A) rfl rfl (fun S4 R4 F4 => ?_)
  obtain ⟨V5, eV5, h⟩ := mLt_some h
  refine mU_F eV5 R4 (mO3 sl0A) rfl rfl (fun S5 R5 F5 => ?_)
  obtain ⟨V6, eV6, h⟩ := mLt_some h
  refine mU_F eV6 R5 (mO3 sl0A) rfl rfl (fun S6 R6 F6 => ?_)
  obtain ⟨V7, eV7, h⟩ := mLt_some h
  refine mU_F eV7 R6 (mO3 sl0A) rfl rfl (fun S7 R7 F7 => ?_)
  obtain ⟨V8, eV8, h⟩ := mLt_some h
  refine mU_F eV8 R7 (mO3 sl0A) rfl rfl (fun S8 R8 F8 => ?_)
  obtain ⟨V9, eV9, h⟩ := mLt_some h
  refine mU_F eV9 R8 (mO3 sl0A) rfl rfl (fun S9 R9 F9 => ?_)
  obtain ⟨V10, eV10, h⟩ := mLt_some h
  refine mU_F eV10 R9 (mO3 sl0A) rfl rfl (fun S10 R10 F10 => ?_)
  obtain ⟨rfl, rfl⟩ := mRW h
  exact k _ R10 (F1.tr (F2.tr (F3.tr (F4.tr (F5.tr (F6.tr (F7.tr (F8.tr (F9.tr F10)))))))))
def mX3_copyQuestion (F : Nat) (l0A : Nat) (l1A : Nat) (V : mV) : Option (Unit × mV) :=
  (mLt (mF V l0A 0 ((V.fI l1A 0))) fun V1 => (mLt (mF V1 l0A 1 ((V1.fI l1A 1))) fun V2 => (mLt (mF V2 l0A 2 ((V2.fI l1A 2))) fun V3 => (mLt (mF V3 l0A 3 ((V3.fI l1A 3))) fun V4 => (mLt (mF V4 l0A 4 ((V4.fI l1A 4))) fun V5 => (mLt (mF V5 l0A 5 ((V5.fI l1A 5))) fun V6 => (mLt (mF V6 l0A 6 ((V6.fI l1A 6))) fun V7 => (if (0 : Int32) < 0 then none else (if (0 : Int32) < 0 then none else (if (80 : Int32) < 0 then none else (if ¬ (((0 : Int32)).toNatClampNeg + ((80 : Int32)).toNatClampNeg ≤ 80) then none else (if ¬ (((0 : Int32)).toNatClampNeg + ((80 : Int32)).toNatClampNeg ≤ 80) then none else (mLt (mRI V7 (l0A + 1) ((va_cpy (V7.rI (l1A + 1)) (V7.rI (l0A + 1)) ((0 : Int32)).toNatClampNeg ((0 : Int32)).toNatClampNeg ((80 : Int32)).toNatClampNeg))) fun V9 => some ((), V9))))))))))))))
set_option maxHeartbeats 4000000 in
set_option maxRecDepth 100000 in
theorem LX3_copyQuestion {α : Nat → Nat} {F : Nat} {S : wPS} {Ln : Nat → Nat} {V V1 : mV} {v : Unit} {Φ : (Unit → wPS → Prop)} {l0Ax : Nat} {l0A : Nat} {l1Ax : Nat} {l1A : Nat} (h : mX3_copyQuestion F l0A l1A V = some (v, V1)) (R : mRel α S Ln V) (sl0A : mK l0A = 3) (sl1A : mK l1A = 3) (el0A : l0Ax = α l0A) (el1A : l1Ax = α l1A) (k : (∀ S1, mRel α S1 Ln V1 → mFr α S S1 → Φ v S1)) : rX3_copyQuestion F l0Ax l1Ax S Φ := by
  have el0A := el0A.symm
  subst el0A
  have el1A := el1A.symm
  subst el1A
  unfold mX3_copyQuestion at h
  unfold rX3_copyQuestion
  obtain ⟨V1, eV1, h⟩ := mLt_some h
  refine mU_F eV1 R (mO3 sl0A) rfl (by rw [show gEntry_kind S (α l1A) = V.fI l1A 0 from (mg_I (i := l1A) R (mO3 sl1A) rfl 0)]) (fun S1 R1 F1 => ?_)
  obtain ⟨V2, eV2, h⟩ := mLt_some h
  refine mU_F eV2 R1 (mO3 sl0A) rfl (by rw [show gEntry_size S1 (α l1A) = V1.fI l1A 1 from (mg_I (i := l1A) R1 (mO3 sl1A) rfl 1)]) (fun S2 R2 F2 => ?_)
  obtain ⟨V3, eV3, h⟩ := mLt_some h
  refine mU_F eV3 R2 (mO3 sl0A) rfl (by rw [show gEntry_bound S2 (α l1A) = V2.fI l1A 2 from (mg_I (i := l1A) R2 (mO3 sl1A) rfl 2)]) (fun S3 R3 F3 => ?_)
  obtain ⟨V4, eV4, h⟩ := mLt_some h
  refine mU_F eV4 R3 (mO3 sl0A) rfl (by rw [show gEntry_leaning S3 (α l1A) = V3.fI l1A 3 from (mg_I (i := l1A) R3 (mO3 sl1A) rfl 3)]) (fun S4 R4 F4 => ?_)
  obtain ⟨V5, eV5, h⟩ := mLt_some h
  refine mU_F eV5 R4 (mO3 sl0A) rfl (by rw [show gEntry_plus S4 (α l1A) = V4.fI l1A 4 from (mg_I (i := l1A) R4 (mO3 sl1A) rfl 4)]) (fun S5 R5 F5 => ?_)
  obtain ⟨V6, eV6, h⟩ := mLt_some h
  refine mU_F eV6 R5 (mO3 sl0A) rfl (by rw [show gEntry_origin S5 (α l1A) = V5.fI l1A 5 from (mg_I (i := l1A) R5 (mO3 sl1A) rfl 5)]) (fun S6 R6 F6 => ?_)
  obtain ⟨V7, eV7, h⟩ := mLt_some h
  refine mU_F eV7 R6 (mO3 sl0A) rfl (by rw [show gEntry_itemCount S6 (α l1A) = V6.fI l1A 6 from (mg_I (i := l1A) R6 (mO3 sl1A) rfl 6)]) (fun S7 R7 F7 => ?_)
  refine mGd h Iff.rfl (fun c1 h => ?_)
  refine mGd h Iff.rfl (fun c2 h => ?_)
  refine mGd h Iff.rfl (fun c3 h => ?_)
  refine mGp h (by rw [show S7.len (wkAd (gEntry_numbers S7 (α l1A))) = 80 from ((mg_len R7 (mA13 (mKe1 sl1A)) (mg_A (t := (l1A + 1)) R7 (mRe sl1A rfl) rfl)).trans (mLe1 sl1A))]) (fun c4 h => ?_)
  refine mGp h (by rw [show S7.len (wkAd (gEntry_numbers S7 (α l0A))) = 80 from ((mg_len R7 (mA13 (mKe1 sl0A)) (mg_A (t := (l0A + 1)) R7 (mRe sl0A rfl) rfl)).trans (mLe1 sl0A))]) (fun c5 h => ?_)
  obtain ⟨V9, eV9, h⟩ := mLt_some h
  refine mU_RI eV9 R7 (mA13 (mKe1 sl0A)) (mg_A (t := (l0A + 1)) R7 (mRe sl0A rfl) rfl) (by rw [show S7.rI (wkAd (gEntry_numbers S7 (α l1A))) = V7.rI (l1A + 1) from (mg_rIf (i := (l1A + 1)) R7 (mA13 (mKe1 sl1A)) (mg_A (t := (l1A + 1)) R7 (mRe sl1A rfl) rfl)), show S7.rI (wkAd (gEntry_numbers S7 (α l0A))) = V7.rI (l0A + 1) from (mg_rIf (i := (l0A + 1)) R7 (mA13 (mKe1 sl0A)) (mg_A (t := (l0A + 1)) R7 (mRe sl0A rfl) rfl))]) (fun S9 R9 F9 => ?_)
  obtain ⟨rfl, rfl⟩ := mRW h
  exact k _ R9 (F1.tr (F2.tr (F3.tr (F4.tr (F5.tr (F6.tr (F7.tr F9)))))))
def mX3_at (F : Nat) (l0A : Nat) (l1I : Int32) (l2I : Int32) (V : mV) : Option Int32 :=
  (mLt ((l1I * (5 : Int32)) + l2I) fun x1 => (if l1I < 0 then some ((0 : Int32)) else (if (V.fI l0A 6) ≤ l1I then some ((0 : Int32)) else (if (80 : Int32) ≤ x1 then some ((0 : Int32)) else (if x1 < 0 ∨ 80 ≤ (x1).toNatClampNeg then none else some ((V.rI (l0A + 1) (x1).toNatClampNeg)))))))
set_option maxHeartbeats 4000000 in
set_option maxRecDepth 100000 in
theorem LX3_at {α : Nat → Nat} {F : Nat} {S : wPS} {Ln : Nat → Nat} {V : mV} {v : Int32} {Φ : (Int32 → wPS → Prop)} {l0Ax : Nat} {l0A : Nat} {l1Ix l1I : Int32} {l2Ix l2I : Int32} (h : mX3_at F l0A l1I l2I V = some v) (R : mRel α S Ln V) (sl0A : mK l0A = 3) (el0A : l0Ax = α l0A) (el1I : l1Ix = l1I) (el2I : l2Ix = l2I) (k : (Φ v S)) : rX3_at F l0Ax l1Ix l2Ix S Φ := by
  have el0A := el0A.symm
  subst el0A
  have el1I := el1I.symm
  subst el1I
  have el2I := el2I.symm
  subst el2I
  unfold mX3_at at h
  unfold rX3_at
  refine mLet h rfl (fun x1 ex1 h => ?_)
  refine mIf h Iff.rfl (fun c1 h => ?_) (fun c1 h => ?_)
  · cases h
    exact k
  · refine mIf h (by rw [show gEntry_itemCount S (α l0A) = V.fI l0A 6 from (mg_I (i := l0A) R (mO3 sl0A) rfl 6)]) (fun c2 h => ?_) (fun c2 h => ?_)
    · cases h
      exact k
    · refine mIf h Iff.rfl (fun c3 h => ?_) (fun c3 h => ?_)
      · cases h
        exact k
      · refine mGd h (by rw [show S.len (wkAd (gEntry_numbers S (α l0A))) = 80 from ((mg_len R (mA13 (mKe1 sl0A)) (mg_A (t := (l0A + 1)) R (mRe sl0A rfl) rfl)).trans (mLe1 sl0A))]) (fun c4 h => ?_)
        cases h
        rw [show S.rI (wkAd (gEntry_numbers S (α l0A))) (x1).toNatClampNeg = V.rI (l0A + 1) (x1).toNatClampNeg from (mg_rI (i := (l0A + 1)) R (mA13 (mKe1 sl0A)) (mg_A (t := (l0A + 1)) R (mRe sl0A rfl) rfl) rfl)]
        exact k
def mX3_setItem (F : Nat) (l0A : Nat) (l1I : Int32) (l2A : Nat) (V : mV) : Option (Unit × mV) :=
  (if l1I < 0 then some ((), V) else (if (80 : Int32) < ((l1I + (1 : Int32)) * (5 : Int32)) then some ((), V) else (if (0 : Int32) < 0 then none else (if (l1I * (5 : Int32)) < 0 then none else (if (5 : Int32) < 0 then none else (if ¬ (((0 : Int32)).toNatClampNeg + ((5 : Int32)).toNatClampNeg ≤ mLen l2A) then none else (if ¬ (((l1I * (5 : Int32))).toNatClampNeg + ((5 : Int32)).toNatClampNeg ≤ 80) then none else (mLt (mRI V (l0A + 1) ((va_cpy (V.rI l2A) (V.rI (l0A + 1)) ((0 : Int32)).toNatClampNeg ((l1I * (5 : Int32))).toNatClampNeg ((5 : Int32)).toNatClampNeg))) fun V4 => some ((), V4)))))))))
set_option maxHeartbeats 4000000 in
set_option maxRecDepth 100000 in
theorem LX3_setItem {α : Nat → Nat} {F : Nat} {S : wPS} {Ln : Nat → Nat} {V V1 : mV} {v : Unit} {Φ : (Unit → wPS → Prop)} {l0Ax : Nat} {l0A : Nat} {l1Ix l1I : Int32} {l2Ax : Nat} {l2A : Nat} (h : mX3_setItem F l0A l1I l2A V = some (v, V1)) (R : mRel α S Ln V) (sl0A : mK l0A = 3) (sl2A : mK l2A = 13) (el0A : l0Ax = α l0A) (el1I : l1Ix = l1I) (el2A : l2Ax = α l2A) (k : (∀ S1, mRel α S1 Ln V1 → mFr α S S1 → Φ v S1)) : rX3_setItem F l0Ax l1Ix l2Ax S Φ := by
  have el0A := el0A.symm
  subst el0A
  have el1I := el1I.symm
  subst el1I
  have el2A := el2A.symm
  subst el2A
  unfold mX3_setItem at h
  unfold rX3_setItem
  refine mIf h Iff.rfl (fun c1 h => ?_) (fun c1 h => ?_)
  · obtain ⟨rfl, rfl⟩ := mRW h
    exact k _ R mFr.rf
  · refine mIf h Iff.rfl (fun c2 h => ?_) (fun c2 h => ?_)
    · obtain ⟨rfl, rfl⟩ := mRW h
      exact k _ R mFr.rf
    · refine mGd h Iff.rfl (fun c3 h => ?_)
      refine mGd h Iff.rfl (fun c4 h => ?_)
      refine mGd h Iff.rfl (fun c5 h => ?_)
      refine mGp h (by rw [show S.len (α l2A) = mLen l2A from (mg_len R (mA13 sl2A) rfl)]) (fun c6 h => ?_)
      refine mGp h (by rw [show S.len (wkAd (gEntry_numbers S (α l0A))) = 80 from ((mg_len R (mA13 (mKe1 sl0A)) (mg_A (t := (l0A + 1)) R (mRe sl0A rfl) rfl)).trans (mLe1 sl0A))]) (fun c7 h => ?_)
      obtain ⟨V4, eV4, h⟩ := mLt_some h
      refine mU_RI eV4 R (mA13 (mKe1 sl0A)) (mg_A (t := (l0A + 1)) R (mRe sl0A rfl) rfl) (by rw [show S.rI (wkAd (gEntry_numbers S (α l0A))) = V.rI (l0A + 1) from (mg_rIf (i := (l0A + 1)) R (mA13 (mKe1 sl0A)) (mg_A (t := (l0A + 1)) R (mRe sl0A rfl) rfl)), show S.rI (α l2A) = V.rI l2A from (mg_rIf (i := l2A) R (mA13 sl2A) rfl)]) (fun S4 R4 F4 => ?_)
      obtain ⟨rfl, rfl⟩ := mRW h
      exact k _ R4 F4
def mX3_addItem (F : Nat) (l0A : Nat) (l1I : Int32) (l2I : Int32) (l3I : Int32) (V : mV) : Option (Unit × mV) :=
  (mLt ((V.fI l0A 6) * (5 : Int32)) fun x1 => (if (80 : Int32) < (x1 + (5 : Int32)) then some ((), V) else (if x1 < 0 ∨ 80 ≤ (x1).toNatClampNeg then none else (mLt (mI V (l0A + 1) (x1) (l1I)) fun V4 => (if (x1 + (1 : Int32)) < 0 ∨ 80 ≤ ((x1 + (1 : Int32))).toNatClampNeg then none else (mLt (mI V4 (l0A + 1) ((x1 + (1 : Int32))) (l2I)) fun V6 => (if (x1 + (2 : Int32)) < 0 ∨ 80 ≤ ((x1 + (2 : Int32))).toNatClampNeg then none else (mLt (mI V6 (l0A + 1) ((x1 + (2 : Int32))) (l3I)) fun V8 => (if (x1 + (3 : Int32)) < 0 ∨ 80 ≤ ((x1 + (3 : Int32))).toNatClampNeg then none else (mLt (mI V8 (l0A + 1) ((x1 + (3 : Int32))) ((0 : Int32))) fun V10 => (if (x1 + (4 : Int32)) < 0 ∨ 80 ≤ ((x1 + (4 : Int32))).toNatClampNeg then none else (mLt (mI V10 (l0A + 1) ((x1 + (4 : Int32))) ((0 : Int32))) fun V12 => (mLt (mF V12 l0A 6 (((V12.fI l0A 6) + (1 : Int32)))) fun V13 => some ((), V13))))))))))))))
set_option maxHeartbeats 4000000 in
set_option maxRecDepth 100000 in
theorem LX3_addItem {α : Nat → Nat} {F : Nat} {S : wPS} {Ln : Nat → Nat} {V V1 : mV} {v : Unit} {Φ : (Unit → wPS → Prop)} {l0Ax : Nat} {l0A : Nat} {l1Ix l1I : Int32} {l2Ix l2I : Int32} {l3Ix l3I : Int32} (h : mX3_addItem F l0A l1I l2I l3I V = some (v, V1)) (R : mRel α S Ln V) (sl0A : mK l0A = 3) (el0A : l0Ax = α l0A) (el1I : l1Ix = l1I) (el2I : l2Ix = l2I) (el3I : l3Ix = l3I) (k : (∀ S1, mRel α S1 Ln V1 → mFr α S S1 → Φ v S1)) : rX3_addItem F l0Ax l1Ix l2Ix l3Ix S Φ := by
  have el0A := el0A.symm
  subst el0A
  have el1I := el1I.symm
  subst el1I
  have el2I := el2I.symm
  subst el2I
  have el3I := el3I.symm
  subst el3I
  unfold mX3_addItem at h
  unfold rX3_addItem
  refine mLet h (by rw [show gEntry_itemCount S (α l0A) = V.fI l0A 6 from (mg_I (i := l0A) R (mO3 sl0A) rfl 6)]) (fun x1 ex1 h => ?_)
  refine mIf h Iff.rfl (fun c1 h => ?_) (fun c1 h => ?_)
  · obtain ⟨rfl, rfl⟩ := mRW h
    exact k _ R mFr.rf
  · refine mGd h (by rw [show S.len (wkAd (gEntry_numbers S (α l0A))) = 80 from ((mg_len R (mA13 (mKe1 sl0A)) (mg_A (t := (l0A + 1)) R (mRe sl0A rfl) rfl)).trans (mLe1 sl0A))]) (fun c2 h => ?_)
    obtain ⟨V4, eV4, h⟩ := mLt_some h
    refine mU_I eV4 R (mA13 (mKe1 sl0A)) (mg_A (t := (l0A + 1)) R (mRe sl0A rfl) rfl) rfl rfl (fun S4 R4 F4 => ?_)
    refine mGd h (by rw [show S4.len (wkAd (gEntry_numbers S4 (α l0A))) = 80 from ((mg_len R4 (mA13 (mKe1 sl0A)) (mg_A (t := (l0A + 1)) R4 (mRe sl0A rfl) rfl)).trans (mLe1 sl0A))]) (fun c3 h => ?_)
    obtain ⟨V6, eV6, h⟩ := mLt_some h
    refine mU_I eV6 R4 (mA13 (mKe1 sl0A)) (mg_A (t := (l0A + 1)) R4 (mRe sl0A rfl) rfl) rfl rfl (fun S6 R6 F6 => ?_)
    refine mGd h (by rw [show S6.len (wkAd (gEntry_numbers S6 (α l0A))) = 80 from ((mg_len R6 (mA13 (mKe1 sl0A)) (mg_A (t := (l0A + 1)) R6 (mRe sl0A rfl) rfl)).trans (mLe1 sl0A))]) (fun c4 h => ?_)
    obtain ⟨V8, eV8, h⟩ := mLt_some h
    refine mU_I eV8 R6 (mA13 (mKe1 sl0A)) (mg_A (t := (l0A + 1)) R6 (mRe sl0A rfl) rfl) rfl rfl (fun S8 R8 F8 => ?_)
    refine mGd h (by rw [show S8.len (wkAd (gEntry_numbers S8 (α l0A))) = 80 from ((mg_len R8 (mA13 (mKe1 sl0A)) (mg_A (t := (l0A + 1)) R8 (mRe sl0A rfl) rfl)).trans (mLe1 sl0A))]) (fun c5 h => ?_)
    obtain ⟨V10, eV10, h⟩ := mLt_some h
    refine mU_I eV10 R8 (mA13 (mKe1 sl0A)) (mg_A (t := (l0A + 1)) R8 (mRe sl0A rfl) rfl) rfl rfl (fun S10 R10 F10 => ?_)
    refine mGd h (by rw [show S10.len (wkAd (gEntry_numbers S10 (α l0A))) = 80 from ((mg_len R10 (mA13 (mKe1 sl0A)) (mg_A (t := (l0A + 1)) R10 (mRe sl0A rfl) rfl)).trans (mLe1 sl0A))]) (fun c6 h => ?_)
    obtain ⟨V12, eV12, h⟩ := mLt_some h
    refine mU_I eV12 R10 (mA13 (mKe1 sl0A)) (mg_A (t := (l0A + 1)) R10 (mRe sl0A rfl) rfl) rfl rfl (fun S12 R12 F12 => ?_)
    obtain ⟨V13, eV13, h⟩ := mLt_some h
    refine mU_F eV13 R12 (mO3 sl0A) rfl (by rw [show gEntry_itemCount S12 (α l0A) = V12.fI l0A 6 from (mg_I (i := l0A) R12 (mO3 sl0A) rfl 6)]) (fun S13 R13 F13 => ?_)
    obtain ⟨rfl, rfl⟩ := mRW h
    exact k _ R13 (F4.tr (F6.tr (F8.tr (F10.tr (F12.tr F13)))))
def mX3_addTo (F : Nat) (l0A : Nat) (l1I : Int32) (l2I : Int32) (l3I : Int32) (V : mV) : Option (Unit × mV) :=
  (mLt ((l1I * (5 : Int32)) + l2I) fun x1 => (if x1 < 0 then some ((), V) else (if (80 : Int32) ≤ x1 then some ((), V) else (if x1 < 0 ∨ 80 ≤ (x1).toNatClampNeg then none else (if x1 < 0 ∨ 80 ≤ (x1).toNatClampNeg then none else (mLt (mI V (l0A + 1) (x1) (((V.rI (l0A + 1) (x1).toNatClampNeg) + l3I))) fun V6 => some ((), V6)))))))
set_option maxHeartbeats 4000000 in
set_option maxRecDepth 100000 in
theorem LX3_addTo {α : Nat → Nat} {F : Nat} {S : wPS} {Ln : Nat → Nat} {V V1 : mV} {v : Unit} {Φ : (Unit → wPS → Prop)} {l0Ax : Nat} {l0A : Nat} {l1Ix l1I : Int32} {l2Ix l2I : Int32} {l3Ix l3I : Int32} (h : mX3_addTo F l0A l1I l2I l3I V = some (v, V1)) (R : mRel α S Ln V) (sl0A : mK l0A = 3) (el0A : l0Ax = α l0A) (el1I : l1Ix = l1I) (el2I : l2Ix = l2I) (el3I : l3Ix = l3I) (k : (∀ S1, mRel α S1 Ln V1 → mFr α S S1 → Φ v S1)) : rX3_addTo F l0Ax l1Ix l2Ix l3Ix S Φ := by
  have el0A := el0A.symm
  subst el0A
  have el1I := el1I.symm
  subst el1I
  have el2I := el2I.symm
  subst el2I
  have el3I := el3I.symm
  subst el3I
  unfold mX3_addTo at h
  unfold rX3_addTo
  refine mLet h rfl (fun x1 ex1 h => ?_)
  refine mIf h Iff.rfl (fun c1 h => ?_) (fun c1 h => ?_)
  · obtain ⟨rfl, rfl⟩ := mRW h
    exact k _ R mFr.rf
  · refine mIf h Iff.rfl (fun c2 h => ?_) (fun c2 h => ?_)
    · obtain ⟨rfl, rfl⟩ := mRW h
      exact k _ R mFr.rf
    · refine mGd h (by rw [show S.len (wkAd (gEntry_numbers S (α l0A))) = 80 from ((mg_len R (mA13 (mKe1 sl0A)) (mg_A (t := (l0A + 1)) R (mRe sl0A rfl) rfl)).trans (mLe1 sl0A))]) (fun c3 h => ?_)
      refine mGd h (by rw [show S.len (wkAd (gEntry_numbers S (α l0A))) = 80 from ((mg_len R (mA13 (mKe1 sl0A)) (mg_A (t := (l0A + 1)) R (mRe sl0A rfl) rfl)).trans (mLe1 sl0A))]) (fun c4 h => ?_)
      obtain ⟨V6, eV6, h⟩ := mLt_some h
      refine mU_I eV6 R (mA13 (mKe1 sl0A)) (mg_A (t := (l0A + 1)) R (mRe sl0A rfl) rfl) rfl (by rw [show S.rI (wkAd (gEntry_numbers S (α l0A))) (x1).toNatClampNeg = V.rI (l0A + 1) (x1).toNatClampNeg from (mg_rI (i := (l0A + 1)) R (mA13 (mKe1 sl0A)) (mg_A (t := (l0A + 1)) R (mRe sl0A rfl) rfl) rfl)]) (fun S6 R6 F6 => ?_)
      obtain ⟨rfl, rfl⟩ := mRW h
      exact k _ R6 F6
def mX3_countUnlike_b0 (F : Nat) (rec : Nat → Nat → Int32 → Nat → Int32 → Int32 → mV → Option Int32) (l0A : Nat) (l1I : Int32) (l2A : Nat) (l3I : Int32) (l4I : Int32) (V : mV) : Option Int32 :=
  (if (5 : Int32) ≤ l4I then some (l3I) else (mBN (mX3_at F l0A (l1I) (l4I) V) fun v2 => (if l4I < 0 ∨ mLen l2A ≤ (l4I).toNatClampNeg then none else (if v2 = (V.rI l2A (l4I).toNatClampNeg) then (mLt (l4I + (1 : Int32)) fun x9 => (rec 0 l0A (l1I) l2A (l3I) (x9) V)) else (mLt (l3I + (1 : Int32)) fun x10 => (mLt (l4I + (1 : Int32)) fun x11 => (rec 0 l0A (l1I) l2A (x10) (x11) V)))))))
def mX3_countUnlike_go (F : Nat) : Nat → Nat → Nat → Int32 → Nat → Int32 → Int32 → mV → Option Int32
  | 0, _, _, _, _, _, _, _ => none
  | k' + 1, lab, l0A, l1I, l2A, l3I, l4I, V => if lab = 0 then mX3_countUnlike_b0 F (mX3_countUnlike_go F k') l0A l1I l2A l3I l4I V else none
def mX3_countUnlike_s (F : Nat) (rec : Nat → Nat → Int32 → Nat → Int32 → Int32 → mV → Option Int32) (l0A : Nat) (l1I : Int32) (l2A : Nat) (V : mV) : Option Int32 :=
  (rec 0 l0A (l1I) l2A ((0 : Int32)) ((0 : Int32)) V)
def mX3_countUnlike (F : Nat) (l0A : Nat) (l1I : Int32) (l2A : Nat) (V : mV) : Option Int32 := mX3_countUnlike_s F (mX3_countUnlike_go F F) l0A l1I l2A V
set_option maxHeartbeats 4000000 in
set_option maxRecDepth 100000 in
theorem LX3_countUnlike_go {α : Nat → Nat} {F : Nat} {Ln : Nat → Nat} {v : Int32} {Φ : (Int32 → wPS → Prop)} : ∀ k' : Nat, (∀ (l0A : Nat) (l1I : Int32) (l2A : Nat) (l3I : Int32) (l4I : Int32) (S : wPS) (V : mV) , mRel α S Ln V → mK l0A = 3 → mK l2A = 13 → mX3_countUnlike_go F k' 0 l0A l1I l2A l3I l4I V = some v → (Φ v S) → rX3_countUnlike_go F k' 0 (α l0A) l1I (α l2A) l3I l4I S Φ) := by
  intro k'
  induction k' with
  | zero => exact (fun _ _ _ _ _ _ _ _ _ _ h _ => by cases h)
  | succ k' ih =>
    intro l0A l1I l2A l3I l4I S V R sl0A sl2A h k
    rw [mX3_countUnlike_go, if_pos rfl] at h
    rw [rX3_countUnlike_go, if_pos rfl]
    unfold mX3_countUnlike_b0 at h
    unfold rX3_countUnlike_b0
    refine mIf h Iff.rfl (fun c1 h => ?_) (fun c1 h => ?_)
    · cases h
      exact k
    · obtain ⟨v2, hv2, h⟩ := mBN_some h
      refine LX3_at hv2 R sl0A rfl rfl rfl ?_
      refine mGd h (by rw [show S.len (α l2A) = mLen l2A from (mg_len R (mA13 sl2A) rfl)]) (fun c2 h => ?_)
      refine mIf h (by rw [show S.rI (α l2A) (l4I).toNatClampNeg = V.rI l2A (l4I).toNatClampNeg from (mg_rI (i := l2A) R (mA13 sl2A) rfl rfl)]) (fun c3 h => ?_) (fun c3 h => ?_)
      · refine mLet h rfl (fun x9 ex9 h => ?_)
        exact ih _ _ _ _ _ _ _ R sl0A sl2A h k
      · refine mLet h rfl (fun x10 ex10 h => ?_)
        refine mLet h rfl (fun x11 ex11 h => ?_)
        exact ih _ _ _ _ _ _ _ R sl0A sl2A h k
set_option maxHeartbeats 4000000 in
set_option maxRecDepth 100000 in
theorem LX3_countUnlike {α : Nat → Nat} {F : Nat} {S : wPS} {Ln : Nat → Nat} {V : mV} {v : Int32} {Φ : (Int32 → wPS → Prop)} {l0Ax : Nat} {l0A : Nat} {l1Ix l1I : Int32} {l2Ax : Nat} {l2A : Nat} (h : mX3_countUnlike F l0A l1I l2A V = some v) (R : mRel α S Ln V) (sl0A : mK l0A = 3) (sl2A : mK l2A = 13) (el0A : l0Ax = α l0A) (el1I : l1Ix = l1I) (el2A : l2Ax = α l2A) (k : (Φ v S)) : rX3_countUnlike F l0Ax l1Ix l2Ax S Φ := by
  have el0A := el0A.symm
  subst el0A
  have el1I := el1I.symm
  subst el1I
  have el2A := el2A.symm
  subst el2A
  have ih := LX3_countUnlike_go  (α := α) (F := F) (v := v) (Ln := Ln) (Φ := Φ) F
  unfold mX3_countUnlike mX3_countUnlike_s at h
  unfold rX3_countUnlike rX3_countUnlike_s
  exact ih _ _ _ _ _ _ _ R sl0A sl2A h k
def mX3_removeItem (F : Nat) (l0A : Nat) (l1I : Int32) (V : mV) : Option (Unit × mV) :=
  (mLt (l1I * (5 : Int32)) fun x1 => (mLt ((((V.fI l0A 6) - l1I) - (1 : Int32)) * (5 : Int32)) fun x2 => (if l1I < 0 then (mLt (mF V l0A 6 (((V.fI l0A 6) - (1 : Int32)))) fun V4 => some ((), V4)) else (if x2 ≤ 0 then (mLt (mF V l0A 6 (((V.fI l0A 6) - (1 : Int32)))) fun V6 => some ((), V6)) else (if (x1 + (5 : Int32)) < 0 then none else (if x1 < 0 then none else (if x2 < 0 then none else (if ¬ (((x1 + (5 : Int32))).toNatClampNeg + (x2).toNatClampNeg ≤ 80) then none else (if ¬ ((x1).toNatClampNeg + (x2).toNatClampNeg ≤ 80) then none else (mLt (mRI V (l0A + 1) ((va_cpy (V.rI (l0A + 1)) (V.rI (l0A + 1)) ((x1 + (5 : Int32))).toNatClampNeg (x1).toNatClampNeg (x2).toNatClampNeg))) fun V8 => (mLt (mF V8 l0A 6 (((V8.fI l0A 6) - (1 : Int32)))) fun V9 => some ((), V9))))))))))))
set_option maxHeartbeats 4000000 in
set_option maxRecDepth 100000 in
theorem LX3_removeItem {α : Nat → Nat} {F : Nat} {S : wPS} {Ln : Nat → Nat} {V V1 : mV} {v : Unit} {Φ : (Unit → wPS → Prop)} {l0Ax : Nat} {l0A : Nat} {l1Ix l1I : Int32} (h : mX3_removeItem F l0A l1I V = some (v, V1)) (R : mRel α S Ln V) (sl0A : mK l0A = 3) (el0A : l0Ax = α l0A) (el1I : l1Ix = l1I) (k : (∀ S1, mRel α S1 Ln V1 → mFr α S S1 → Φ v S1)) : rX3_removeItem F l0Ax l1Ix S Φ := by
  have el0A := el0A.symm
  subst el0A
  have el1I := el1I.symm
  subst el1I
  unfold mX3_removeItem at h
  unfold rX3_removeItem
  refine mLet h rfl (fun x1 ex1 h => ?_)
  refine mLet h (by rw [show gEntry_itemCount S (α l0A) = V.fI l0A 6 from (mg_I (i := l0A) R (mO3 sl0A) rfl 6)]) (fun x2 ex2 h => ?_)
  refine mIf h Iff.rfl (fun c1 h => ?_) (fun c1 h => ?_)
  · obtain ⟨V4, eV4, h⟩ := mLt_some h
    refine mU_F eV4 R (mO3 sl0A) rfl (by rw [show gEntry_itemCount S (α l0A) = V.fI l0A 6 from (mg_I (i := l0A) R (mO3 sl0A) rfl 6)]) (fun S4 R4 F4 => ?_)
    obtain ⟨rfl, rfl⟩ := mRW h
    exact k _ R4 F4
  · refine mIf h Iff.rfl (fun c2 h => ?_) (fun c2 h => ?_)
    · obtain ⟨V6, eV6, h⟩ := mLt_some h
      refine mU_F eV6 R (mO3 sl0A) rfl (by rw [show gEntry_itemCount S (α l0A) = V.fI l0A 6 from (mg_I (i := l0A) R (mO3 sl0A) rfl 6)]) (fun S6 R6 F6 => ?_)
      obtain ⟨rfl, rfl⟩ := mRW h
      exact k _ R6 F6
    · refine mGd h Iff.rfl (fun c3 h => ?_)
      refine mGd h Iff.rfl (fun c4 h => ?_)
      refine mGd h Iff.rfl (fun c5 h => ?_)
      refine mGp h (by rw [show S.len (wkAd (gEntry_numbers S (α l0A))) = 80 from ((mg_len R (mA13 (mKe1 sl0A)) (mg_A (t := (l0A + 1)) R (mRe sl0A rfl) rfl)).trans (mLe1 sl0A))]) (fun c6 h => ?_)
      refine mGp h (by rw [show S.len (wkAd (gEntry_numbers S (α l0A))) = 80 from ((mg_len R (mA13 (mKe1 sl0A)) (mg_A (t := (l0A + 1)) R (mRe sl0A rfl) rfl)).trans (mLe1 sl0A))]) (fun c7 h => ?_)
      obtain ⟨V8, eV8, h⟩ := mLt_some h
      refine mU_RI eV8 R (mA13 (mKe1 sl0A)) (mg_A (t := (l0A + 1)) R (mRe sl0A rfl) rfl) (by rw [show S.rI (wkAd (gEntry_numbers S (α l0A))) = V.rI (l0A + 1) from (mg_rIf (i := (l0A + 1)) R (mA13 (mKe1 sl0A)) (mg_A (t := (l0A + 1)) R (mRe sl0A rfl) rfl))]) (fun S8 R8 F8 => ?_)
      obtain ⟨V9, eV9, h⟩ := mLt_some h
      refine mU_F eV9 R8 (mO3 sl0A) rfl (by rw [show gEntry_itemCount S8 (α l0A) = V8.fI l0A 6 from (mg_I (i := l0A) R8 (mO3 sl0A) rfl 6)]) (fun S9 R9 F9 => ?_)
      obtain ⟨rfl, rfl⟩ := mRW h
      exact k _ R9 (F8.tr F9)
def mX3_isSameQuestion_b0 (F : Nat) (rec : Nat → Nat → Nat → Int32 → mV → Option Int32) (l0A : Nat) (l1A : Nat) (l2I : Int32) (V : mV) : Option Int32 :=
  (if ((V.fI l0A 6) * (5 : Int32)) ≤ l2I then some ((1 : Int32)) else (if (80 : Int32) ≤ l2I then some ((1 : Int32)) else (if l2I < 0 ∨ 80 ≤ (l2I).toNatClampNeg then none else (if l2I < 0 ∨ 80 ≤ (l2I).toNatClampNeg then none else (if (V.rI (l0A + 1) (l2I).toNatClampNeg) = (V.rI (l1A + 1) (l2I).toNatClampNeg) then (mLt (l2I + (1 : Int32)) fun x6 => (rec 0 l0A l1A (x6) V)) else some ((0 : Int32)))))))
def mX3_isSameQuestion_go (F : Nat) : Nat → Nat → Nat → Nat → Int32 → mV → Option Int32
  | 0, _, _, _, _, _ => none
  | k' + 1, lab, l0A, l1A, l2I, V => if lab = 0 then mX3_isSameQuestion_b0 F (mX3_isSameQuestion_go F k') l0A l1A l2I V else none
def mX3_isSameQuestion_s (F : Nat) (rec : Nat → Nat → Nat → Int32 → mV → Option Int32) (l0A : Nat) (l1A : Nat) (V : mV) : Option Int32 :=
  (if (V.fI l0A 1) = (V.fI l1A 1) then (if (V.fI l0A 2) = (V.fI l1A 8) then (if (V.fI l0A 6) = (V.fI l1A 6) then (rec 0 l0A l1A ((0 : Int32)) V) else some ((0 : Int32))) else some ((0 : Int32))) else some ((0 : Int32)))
def mX3_isSameQuestion (F : Nat) (l0A : Nat) (l1A : Nat) (V : mV) : Option Int32 := mX3_isSameQuestion_s F (mX3_isSameQuestion_go F F) l0A l1A V
set_option maxHeartbeats 4000000 in
set_option maxRecDepth 100000 in
theorem LX3_isSameQuestion_go {α : Nat → Nat} {F : Nat} {Ln : Nat → Nat} {v : Int32} {Φ : (Int32 → wPS → Prop)} : ∀ k' : Nat, (∀ (l0A : Nat) (l1A : Nat) (l2I : Int32) (S : wPS) (V : mV) , mRel α S Ln V → mK l0A = 3 → mK l1A = 3 → mX3_isSameQuestion_go F k' 0 l0A l1A l2I V = some v → (Φ v S) → rX3_isSameQuestion_go F k' 0 (α l0A) (α l1A) l2I S Φ) := by
  intro k'
  induction k' with
  | zero => exact (fun _ _ _ _ _ _ _ _ h _ => by cases h)
  | succ k' ih =>
    intro l0A l1A l2I S V R sl0A sl1A h k
    rw [mX3_isSameQuestion_go, if_pos rfl] at h
    rw [rX3_isSameQuestion_go, if_pos rfl]
    unfold mX3_isSameQuestion_b0 at h
    unfold rX3_isSameQuestion_b0
    refine mIf h (by rw [show gEntry_itemCount S (α l0A) = V.fI l0A 6 from (mg_I (i := l0A) R (mO3 sl0A) rfl 6)]) (fun c1 h => ?_) (fun c1 h => ?_)
    · cases h
      exact k
    · refine mIf h Iff.rfl (fun c2 h => ?_) (fun c2 h => ?_)
      · cases h
        exact k
      · refine mGd h (by rw [show S.len (wkAd (gEntry_numbers S (α l0A))) = 80 from ((mg_len R (mA13 (mKe1 sl0A)) (mg_A (t := (l0A + 1)) R (mRe sl0A rfl) rfl)).trans (mLe1 sl0A))]) (fun c3 h => ?_)
        refine mGd h (by rw [show S.len (wkAd (gEntry_numbers S (α l1A))) = 80 from ((mg_len R (mA13 (mKe1 sl1A)) (mg_A (t := (l1A + 1)) R (mRe sl1A rfl) rfl)).trans (mLe1 sl1A))]) (fun c4 h => ?_)
        refine mIf h (by rw [show S.rI (wkAd (gEntry_numbers S (α l0A))) (l2I).toNatClampNeg = V.rI (l0A + 1) (l2I).toNatClampNeg from (mg_rI (i := (l0A + 1)) R (mA13 (mKe1 sl0A)) (mg_A (t := (l0A + 1)) R (mRe sl0A rfl) rfl) rfl), show S.rI (wkAd (gEntry_numbers S (α l1A))) (l2I).toNatClampNeg = V.rI (l1A + 1) (l2I).toNatClampNeg from (mg_rI (i := (l1A + 1)) R (mA13 (mKe1 sl1A)) (mg_A (t := (l1A + 1)) R (mRe sl1A rfl) rfl) rfl)]) (fun c5 h => ?_) (fun c5 h => ?_)
        · refine mLet h rfl (fun x6 ex6 h => ?_)
          exact ih _ _ _ _ _ R sl0A sl1A h k
        · cases h
          exact k
set_option maxHeartbeats 4000000 in
set_option maxRecDepth 100000 in
theorem LX3_isSameQuestion {α : Nat → Nat} {F : Nat} {S : wPS} {Ln : Nat → Nat} {V : mV} {v : Int32} {Φ : (Int32 → wPS → Prop)} {l0Ax : Nat} {l0A : Nat} {l1Ax : Nat} {l1A : Nat} (h : mX3_isSameQuestion F l0A l1A V = some v) (R : mRel α S Ln V) (sl0A : mK l0A = 3) (sl1A : mK l1A = 3) (el0A : l0Ax = α l0A) (el1A : l1Ax = α l1A) (k : (Φ v S)) : rX3_isSameQuestion F l0Ax l1Ax S Φ := by
  have el0A := el0A.symm
  subst el0A
  have el1A := el1A.symm
  subst el1A
  have ih := LX3_isSameQuestion_go  (α := α) (F := F) (v := v) (Ln := Ln) (Φ := Φ) F
  unfold mX3_isSameQuestion mX3_isSameQuestion_s at h
  unfold rX3_isSameQuestion rX3_isSameQuestion_s
  refine mIf h (by rw [show gEntry_size S (α l0A) = V.fI l0A 1 from (mg_I (i := l0A) R (mO3 sl0A) rfl 1), show gEntry_size S (α l1A) = V.fI l1A 1 from (mg_I (i := l1A) R (mO3 sl1A) rfl 1)]) (fun c6 h => ?_) (fun c6 h => ?_)
  · refine mIf h (by rw [show gEntry_boundNow S (α l1A) = V.fI l1A 8 from (mg_I (i := l1A) R (mO3 sl1A) rfl 8), show gEntry_bound S (α l0A) = V.fI l0A 2 from (mg_I (i := l0A) R (mO3 sl0A) rfl 2)]) (fun c7 h => ?_) (fun c7 h => ?_)
    · refine mIf h (by rw [show gEntry_itemCount S (α l0A) = V.fI l0A 6 from (mg_I (i := l0A) R (mO3 sl0A) rfl 6), show gEntry_itemCount S (α l1A) = V.fI l1A 6 from (mg_I (i := l1A) R (mO3 sl1A) rfl 6)]) (fun c8 h => ?_) (fun c8 h => ?_)
      · exact ih _ _ _ _ _ R sl0A sl1A h k
      · cases h
        exact k
    · cases h
      exact k
  · cases h
    exact k
def mX3_tell (F : Nat) (l0A : Nat) (l1I : Int32) (l2I : Int32) (V : mV) : Option (Unit × mV) :=
  (if l1I = 0 then (if ¬ ((((110 : Int32) : Int32).toUInt32 % 65536).toInt32 = (110 : Int32)) then none else (mLt (mF V l0A 11 ((110 : Int32))) fun V3 => (mLt (mF V3 l0A 12 (l2I)) fun V4 => some ((), V4)))) else (if ¬ ((((121 : Int32) : Int32).toUInt32 % 65536).toInt32 = (121 : Int32)) then none else (mLt (mF V l0A 11 ((121 : Int32))) fun V6 => (mLt (mF V6 l0A 12 (l2I)) fun V7 => some ((), V7)))))
set_option maxHeartbeats 4000000 in
set_option maxRecDepth 100000 in
theorem LX3_tell {α : Nat → Nat} {F : Nat} {S : wPS} {Ln : Nat → Nat} {V V1 : mV} {v : Unit} {Φ : (Unit → wPS → Prop)} {l0Ax : Nat} {l0A : Nat} {l1Ix l1I : Int32} {l2Ix l2I : Int32} (h : mX3_tell F l0A l1I l2I V = some (v, V1)) (R : mRel α S Ln V) (sl0A : mK l0A = 3) (el0A : l0Ax = α l0A) (el1I : l1Ix = l1I) (el2I : l2Ix = l2I) (k : (∀ S1, mRel α S1 Ln V1 → mFr α S S1 → Φ v S1)) : rX3_tell F l0Ax l1Ix l2Ix S Φ := by
  have el0A := el0A.symm
  subst el0A
  have el1I := el1I.symm
  subst el1I
  have el2I := el2I.symm
  subst el2I
  unfold mX3_tell at h
  unfold rX3_tell
  refine mIf h Iff.rfl (fun c1 h => ?_) (fun c1 h => ?_)
  · refine mGp h Iff.rfl (fun c2 h => ?_)
    obtain ⟨V3, eV3, h⟩ := mLt_some h
    refine mU_F eV3 R (mO3 sl0A) rfl rfl (fun S3 R3 F3 => ?_)
    obtain ⟨V4, eV4, h⟩ := mLt_some h
    refine mU_F eV4 R3 (mO3 sl0A) rfl rfl (fun S4 R4 F4 => ?_)
    obtain ⟨rfl, rfl⟩ := mRW h
    exact k _ R4 (F3.tr F4)
  · refine mGp h Iff.rfl (fun c3 h => ?_)
    obtain ⟨V6, eV6, h⟩ := mLt_some h
    refine mU_F eV6 R (mO3 sl0A) rfl rfl (fun S6 R6 F6 => ?_)
    obtain ⟨V7, eV7, h⟩ := mLt_some h
    refine mU_F eV7 R6 (mO3 sl0A) rfl rfl (fun S7 R7 F7 => ?_)
    obtain ⟨rfl, rfl⟩ := mRW h
    exact k _ R7 (F6.tr F7)
def mX3_nodeAsked (F : Nat) (l0A : Nat) (V : mV) : Option Int32 :=
  (if (V.fI l0A 1) ≤ (V.fI l0A 8) then some (((V.fI l0A 1) - (1 : Int32))) else some ((V.fI l0A 8)))
set_option maxHeartbeats 4000000 in
set_option maxRecDepth 100000 in
theorem LX3_nodeAsked {α : Nat → Nat} {F : Nat} {S : wPS} {Ln : Nat → Nat} {V : mV} {v : Int32} {Φ : (Int32 → wPS → Prop)} {l0Ax : Nat} {l0A : Nat} (h : mX3_nodeAsked F l0A V = some v) (R : mRel α S Ln V) (sl0A : mK l0A = 3) (el0A : l0Ax = α l0A) (k : (Φ v S)) : rX3_nodeAsked F l0Ax S Φ := by
  have el0A := el0A.symm
  subst el0A
  unfold mX3_nodeAsked at h
  unfold rX3_nodeAsked
  refine mIf h (by rw [show gEntry_boundNow S (α l0A) = V.fI l0A 8 from (mg_I (i := l0A) R (mO3 sl0A) rfl 8), show gEntry_size S (α l0A) = V.fI l0A 1 from (mg_I (i := l0A) R (mO3 sl0A) rfl 1)]) (fun c1 h => ?_) (fun c1 h => ?_)
  · cases h
    rw [show gEntry_size S (α l0A) = V.fI l0A 1 from (mg_I (i := l0A) R (mO3 sl0A) rfl 1)]
    exact k
  · cases h
    rw [show gEntry_boundNow S (α l0A) = V.fI l0A 8 from (mg_I (i := l0A) R (mO3 sl0A) rfl 8)]
    exact k
def mX4_isWithin (F : Nat) (l0I : Int32) (l1I : Int32) (l2I : Int32) : Option Int32 :=
  (if l0I < l1I then some ((0 : Int32)) else (if l2I < l0I then some ((0 : Int32)) else some ((1 : Int32))))
set_option maxHeartbeats 4000000 in
set_option maxRecDepth 100000 in
theorem LX4_isWithin {F : Nat} {S : wPS} {v : Int32} {Φ : (Int32 → wPS → Prop)} {l0Ix l0I : Int32} {l1Ix l1I : Int32} {l2Ix l2I : Int32} (h : mX4_isWithin F l0I l1I l2I  = some v) (el0I : l0Ix = l0I) (el1I : l1Ix = l1I) (el2I : l2Ix = l2I) (k : (Φ v S)) : rX4_isWithin F l0Ix l1Ix l2Ix S Φ := by
  have el0I := el0I.symm
  subst el0I
  have el1I := el1I.symm
  subst el1I
  have el2I := el2I.symm
  subst el2I
  unfold mX4_isWithin at h
  unfold rX4_isWithin
  refine mIf h Iff.rfl (fun c1 h => ?_) (fun c1 h => ?_)
  · cases h
    exact k
  · refine mIf h Iff.rfl (fun c2 h => ?_) (fun c2 h => ?_)
    · cases h
      exact k
    · cases h
      exact k
end
