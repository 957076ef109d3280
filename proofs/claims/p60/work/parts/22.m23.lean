/-! LIFTED BY PROGRAM (lift.py): X8_divideFirst, X10_writePoints, X10_writeRows, X10_areRowsOf, X10_findNext. -/
section
def mX8_divideFirst_b0 (F : Nat) (rec : Nat → Int64 → Int32 → mV → Option (Unit × mV)) (l2J : Int64) (l4I : Int32) (V : mV) : Option (Unit × mV) :=
  (if (4 : Int32) ≤ l4I then (if (0 : Int32) < 0 ∨ 5 ≤ ((0 : Int32)).toNatClampNeg then none else (mBW (mX8_makeFree F (62 + ((0 : Int32)).toNatClampNeg) V) fun v4 V5 => some ((), V5))) else (if (0 : Int32) < 0 ∨ 5 ≤ ((0 : Int32)).toNatClampNeg then none else (if l4I < 0 ∨ 4 ≤ (l4I).toNatClampNeg then none else (if l4I < 0 ∨ 4 ≤ (l4I).toNatClampNeg then none else (mLt (mJ V (62 + ((0 : Int32)).toNatClampNeg) (l4I) ((l2J * (V.rJ 69 (l4I).toNatClampNeg)))) fun V13 => (mLt (l4I + (1 : Int32)) fun x14 => (rec 0 (l2J) (x14) V13)))))))
def mX8_divideFirst_go (F : Nat) : Nat → Nat → Int64 → Int32 → mV → Option (Unit × mV)
  | 0, _, _, _, _ => none
  | k' + 1, lab, l2J, l4I, V => if lab = 0 then mX8_divideFirst_b0 F (mX8_divideFirst_go F k') l2J l4I V else none
def mX8_divideFirst_s (F : Nat) (rec : Nat → Int64 → Int32 → mV → Option (Unit × mV)) (l1I : Int32) (V : mV) : Option (Unit × mV) :=
  (if (0 : Int32) < 0 ∨ 5 ≤ ((0 : Int32)).toNatClampNeg then none else (if l1I < 0 ∨ 5 ≤ (l1I).toNatClampNeg then none else (if (0 : Int32) < 0 ∨ 5 ≤ ((0 : Int32)).toNatClampNeg then none else (if l1I < 0 ∨ 5 ≤ (l1I).toNatClampNeg then none else (mBW (mX8_divide F (62 + ((0 : Int32)).toNatClampNeg) (62 + (l1I).toNatClampNeg) ((V.rI 67 ((0 : Int32)).toNatClampNeg)) ((V.rI 67 (l1I).toNatClampNeg)) V) fun v21 V22 => (mBN (mX8_degreeOf F 69 V22) fun v26 => (if (0 : Int32) < 0 ∨ 5 ≤ ((0 : Int32)).toNatClampNeg then none else (mLt (mI V22 67 ((0 : Int32)) ((if (0 : Int32) < v26 then v26 else (0 : Int32)))) fun V32 => (if (0 : Int32) < 0 ∨ 5 ≤ ((0 : Int32)).toNatClampNeg then none else (if (V32.rI 67 ((0 : Int32)).toNatClampNeg) < 0 ∨ 4 ≤ ((V32.rI 67 ((0 : Int32)).toNatClampNeg)).toNatClampNeg then none else (if 0 ≤ (lg_cmp (V32.rJ 69 ((V32.rI 67 ((0 : Int32)).toNatClampNeg)).toNatClampNeg) (0 : Int64)) then (rec 0 ((1 : Int64)) ((0 : Int32)) V32) else (rec 0 ((-1 : Int64)) ((0 : Int32)) V32))))))))))))
def mX8_divideFirst (F : Nat) (l1I : Int32) (V : mV) : Option (Unit × mV) := mX8_divideFirst_s F (mX8_divideFirst_go F F) l1I V
set_option maxHeartbeats 4000000 in
set_option maxRecDepth 100000 in
theorem LX8_divideFirst_go {α : Nat → Nat} {F : Nat} {Ln : Nat → Nat} {v : Unit} {V1 : mV} {Φ : (Unit → wPS → Prop)} : ∀ k' : Nat, (∀ (l2J : Int64) (l4I : Int32) (S : wPS) (V : mV) , mRel α S Ln V → mX8_divideFirst_go F k' 0 l2J l4I V = some (v, V1) → (∀ S1, mRel α S1 Ln V1 → mFr α S S1 → Φ v S1) → rX8_divideFirst_go F k' 0 (α 6) l2J l4I S Φ) := by
  intro k'
  induction k' with
  | zero => exact (fun _ _ _ _ _ h _ => by cases h)
  | succ k' ih =>
    intro l2J l4I S V R h k
    rw [mX8_divideFirst_go, if_pos rfl] at h
    rw [rX8_divideFirst_go, if_pos rfl]
    unfold mX8_divideFirst_b0 at h
    unfold rX8_divideFirst_b0
    refine mIf h Iff.rfl (fun c1 h => ?_) (fun c1 h => ?_)
    · refine mGd h (by rw [show S.len (wkAd (gNumbers_chain S (α 6))) = 5 from (mg_len (i := 61) R (mAr (by decide)) (mg_A (t := 61) R rfl rfl))]) (fun c2 h => ?_)
      obtain ⟨v4, V5, hv4, h⟩ := mBW_some h
      refine LX8_makeFree hv4 R (mKA61 (Nat.lt_of_not_le (fun z => c2 (Or.inr z)))) (mg_RA R (mRA61 (Nat.lt_of_not_le (fun z => c2 (Or.inr z)))) (mg_A (t := 61) R rfl rfl) rfl) (fun S5 R5 F5 => ?_)
      obtain ⟨rfl, rfl⟩ := mRW h
      exact k _ R5 F5
    · refine mGd h (by rw [show S.len (wkAd (gNumbers_chain S (α 6))) = 5 from (mg_len (i := 61) R (mAr (by decide)) (mg_A (t := 61) R rfl rfl))]) (fun c3 h => ?_)
      refine mGd h (by rw [show S.len (wkAd (gNumbers_often S (α 6))) = 4 from (mg_len (i := 69) R (mA14 rfl) (mg_A (t := 69) R rfl rfl))]) (fun c4 h => ?_)
      refine mGd h (by rw [show S.len (wkAd (S.rA (wkAd (gNumbers_chain S (α 6))) ((0 : Int32)).toNatClampNeg)) = 4 from ((mg_len R (mA14 (mKA61 (Nat.lt_of_not_le (fun z => c3 (Or.inr z))))) (mg_RA R (mRA61 (Nat.lt_of_not_le (fun z => c3 (Or.inr z)))) (mg_A (t := 61) R rfl rfl) rfl)).trans (mLA61 (Nat.lt_of_not_le (fun z => c3 (Or.inr z)))))]) (fun c5 h => ?_)
      obtain ⟨V13, eV13, h⟩ := mLt_some h
      refine mU_J eV13 R (mA14 (mKA61 (Nat.lt_of_not_le (fun z => c3 (Or.inr z))))) (mg_RA R (mRA61 (Nat.lt_of_not_le (fun z => c3 (Or.inr z)))) (mg_A (t := 61) R rfl rfl) rfl) rfl (by rw [show S.rJ (wkAd (gNumbers_often S (α 6))) (l4I).toNatClampNeg = V.rJ 69 (l4I).toNatClampNeg from (mg_rJ (i := 69) R (mA14 rfl) (mg_A (t := 69) R rfl rfl) rfl)]) (fun S13 R13 F13 => ?_)
      refine mLet h rfl (fun x14 ex14 h => ?_)
      exact ih _ _ _ _ R13 h (fun S1 R1 F1 => k S1 R1 (F13.tr F1))
set_option maxHeartbeats 4000000 in
set_option maxRecDepth 100000 in
theorem LX8_divideFirst {α : Nat → Nat} {F : Nat} {S : wPS} {Ln : Nat → Nat} {V V1 : mV} {v : Unit} {Φ : (Unit → wPS → Prop)} {l0Ax : Nat} {l1Ix l1I : Int32} (h : mX8_divideFirst F l1I V = some (v, V1)) (R : mRel α S Ln V) (el0A : l0Ax = α 6) (el1I : l1Ix = l1I) (k : (∀ S1, mRel α S1 Ln V1 → mFr α S S1 → Φ v S1)) : rX8_divideFirst F l0Ax l1Ix S Φ := by
  have el0A := el0A.symm
  subst el0A
  have el1I := el1I.symm
  subst el1I
  have ih := LX8_divideFirst_go  (α := α) (F := F) (v := v) (Ln := Ln) (Φ := Φ) (V1 := V1) F
  unfold mX8_divideFirst mX8_divideFirst_s at h
  unfold rX8_divideFirst rX8_divideFirst_s
  refine mGd h (by rw [show S.len (wkAd (gNumbers_chain S (α 6))) = 5 from (mg_len (i := 61) R (mAr (by decide)) (mg_A (t := 61) R rfl rfl))]) (fun c6 h => ?_)
  refine mGd h (by rw [show S.len (wkAd (gNumbers_chain S (α 6))) = 5 from (mg_len (i := 61) R (mAr (by decide)) (mg_A (t := 61) R rfl rfl))]) (fun c7 h => ?_)
  refine mGd h (by rw [show S.len (wkAd (gNumbers_degrees S (α 6))) = 5 from (mg_len (i := 67) R (mA13 rfl) (mg_A (t := 67) R rfl rfl))]) (fun c8 h => ?_)
  refine mGd h (by rw [show S.len (wkAd (gNumbers_degrees S (α 6))) = 5 from (mg_len (i := 67) R (mA13 rfl) (mg_A (t := 67) R rfl rfl))]) (fun c9 h => ?_)
  obtain ⟨v21, V22, hv21, h⟩ := mBW_some h
  refine LX8_divide hv21 R (mKA61 (Nat.lt_of_not_le (fun z => c8 (Or.inr z)))) (mKA61 (Nat.lt_of_not_le (fun z => c9 (Or.inr z)))) rfl (mg_RA R (mRA61 (Nat.lt_of_not_le (fun z => c8 (Or.inr z)))) (mg_A (t := 61) R rfl rfl) rfl) (mg_RA R (mRA61 (Nat.lt_of_not_le (fun z => c9 (Or.inr z)))) (mg_A (t := 61) R rfl rfl) rfl) (by rw [show S.rI (wkAd (gNumbers_degrees S (α 6))) ((0 : Int32)).toNatClampNeg = V.rI 67 ((0 : Int32)).toNatClampNeg from (mg_rI (i := 67) R (mA13 rfl) (mg_A (t := 67) R rfl rfl) rfl)]) (by rw [show S.rI (wkAd (gNumbers_degrees S (α 6))) (l1I).toNatClampNeg = V.rI 67 (l1I).toNatClampNeg from (mg_rI (i := 67) R (mA13 rfl) (mg_A (t := 67) R rfl rfl) rfl)]) (fun S22 R22 F22 => ?_)
  obtain ⟨v26, hv26, h⟩ := mBN_some h
  refine LX8_degreeOf hv26 R22 rfl (mg_A (t := 69) R22 rfl rfl) ?_
  refine mGd h (by rw [show S22.len (wkAd (gNumbers_degrees S22 (α 6))) = 5 from (mg_len (i := 67) R22 (mA13 rfl) (mg_A (t := 67) R22 rfl rfl))]) (fun c10 h => ?_)
  obtain ⟨V32, eV32, h⟩ := mLt_some h
  refine mU_I eV32 R22 (mA13 rfl) (mg_A (t := 67) R22 rfl rfl) rfl rfl (fun S32 R32 F32 => ?_)
  refine mGd h (by rw [show S32.len (wkAd (gNumbers_degrees S32 (α 6))) = 5 from (mg_len (i := 67) R32 (mA13 rfl) (mg_A (t := 67) R32 rfl rfl))]) (fun c11 h => ?_)
  refine mGd h (by rw [show S32.rI (wkAd (gNumbers_degrees S32 (α 6))) ((0 : Int32)).toNatClampNeg = V32.rI 67 ((0 : Int32)).toNatClampNeg from (mg_rI (i := 67) R32 (mA13 rfl) (mg_A (t := 67) R32 rfl rfl) rfl), show S32.len (wkAd (gNumbers_often S32 (α 6))) = 4 from (mg_len (i := 69) R32 (mA14 rfl) (mg_A (t := 69) R32 rfl rfl))]) (fun c12 h => ?_)
  refine mIf h (by rw [show S32.rJ (wkAd (gNumbers_often S32 (α 6))) ((S32.rI (wkAd (gNumbers_degrees S32 (α 6))) ((0 : Int32)).toNatClampNeg)).toNatClampNeg = V32.rJ 69 ((V32.rI 67 ((0 : Int32)).toNatClampNeg)).toNatClampNeg from (mg_rJ (i := 69) R32 (mA14 rfl) (mg_A (t := 69) R32 rfl rfl) (by rw [show S32.rI (wkAd (gNumbers_degrees S32 (α 6))) ((0 : Int32)).toNatClampNeg = V32.rI 67 ((0 : Int32)).toNatClampNeg from (mg_rI (i := 67) R32 (mA13 rfl) (mg_A (t := 67) R32 rfl rfl) rfl)]))]) (fun c13 h => ?_) (fun c13 h => ?_)
  · exact ih _ _ _ _ R32 h (fun S1 R1 F1 => k S1 R1 (F22.tr (F32.tr F1)))
  · exact ih _ _ _ _ R32 h (fun S1 R1 F1 => k S1 R1 (F22.tr (F32.tr F1)))
def mX10_writePoints_b0 (F : Nat) (rec : Nat → Nat → Int32 → Int32 → Int32 → mV → Option (Unit × mV)) (l2A : Nat) (l3I : Int32) (l4I : Int32) (V : mV) : Option (Unit × mV) :=
  (if l4I < 0 then (rec 1 l2A 0 ((0 : Int32)) ((0 : Int32)) V) else (if ((V.fI 7 10) - l4I) = 0 then none else (if l4I < 0 ∨ mLen l2A ≤ (l4I).toNatClampNeg then none else (mLt (mI V l2A (l4I) ((l3I - l3I / ((V.fI 7 10) - l4I) * ((V.fI 7 10) - l4I)))) fun V4 => (if ((V4.fI 7 10) - l4I) = 0 then none else (mLt (l3I / ((V4.fI 7 10) - l4I)) fun x6 => (mLt (l4I + (-1 : Int32)) fun x7 => (rec 0 l2A (x6) (x7) 0 V4))))))))
def mX10_writePoints_b1 (F : Nat) (rec : Nat → Nat → Int32 → Int32 → Int32 → mV → Option (Unit × mV)) (l2A : Nat) (l4I : Int32) (l5I : Int32) (V : mV) : Option (Unit × mV) :=
  (if (V.fI 7 10) ≤ l5I then some ((), V) else (if l5I < 0 ∨ mLen l2A ≤ (l5I).toNatClampNeg then none else (mBN (mX10_unusedPoint F (l4I) ((V.rI l2A (l5I).toNatClampNeg)) V) fun v10 => (if l5I < 0 ∨ mLen l2A ≤ (l5I).toNatClampNeg then none else (mLt (mI V l2A (l5I) (v10)) fun V16 => (if l5I < 0 ∨ mLen l2A ≤ (l5I).toNatClampNeg then none else (mLt (l4I ||| ((1 : Int32) <<< ((V16.rI l2A (l5I).toNatClampNeg) &&& 31))) fun x18 => (mLt (l5I + (1 : Int32)) fun x19 => (rec 1 l2A 0 (x18) (x19) V16)))))))))
def mX10_writePoints_go (F : Nat) : Nat → Nat → Nat → Int32 → Int32 → Int32 → mV → Option (Unit × mV)
  | 0, _, _, _, _, _, _ => none
  | k' + 1, lab, l2A, l3I, l4I, l5I, V => if lab = 0 then mX10_writePoints_b0 F (mX10_writePoints_go F k') l2A l3I l4I V else if lab = 1 then mX10_writePoints_b1 F (mX10_writePoints_go F k') l2A l4I l5I V else none
def mX10_writePoints_s (F : Nat) (rec : Nat → Nat → Int32 → Int32 → Int32 → mV → Option (Unit × mV)) (l1I : Int32) (l2A : Nat) (V : mV) : Option (Unit × mV) :=
  (mLt ((V.fI 7 10) - (1 : Int32)) fun x20 => (rec 0 l2A (l1I) (x20) 0 V))
def mX10_writePoints (F : Nat) (l1I : Int32) (l2A : Nat) (V : mV) : Option (Unit × mV) := mX10_writePoints_s F (mX10_writePoints_go F F) l1I l2A V
set_option maxHeartbeats 4000000 in
set_option maxRecDepth 100000 in
theorem LX10_writePoints_go {α : Nat → Nat} {F : Nat} {Ln : Nat → Nat} {v : Unit} {V1 : mV} {Φ : (Unit → wPS → Prop)} : ∀ k' : Nat, (∀ (l2A : Nat) (l3I : Int32) (l4I : Int32) (S : wPS) (V : mV) , mRel α S Ln V → mK l2A = 13 → mX10_writePoints_go F k' 0 l2A l3I l4I 0 V = some (v, V1) → (∀ S1, mRel α S1 Ln V1 → mFr α S S1 → Φ v S1) → rX10_writePoints_go F k' 0 (α 7) (α l2A) l3I l4I 0 S Φ) ∧ (∀ (l2A : Nat) (l4I : Int32) (l5I : Int32) (S : wPS) (V : mV) , mRel α S Ln V → mK l2A = 13 → mX10_writePoints_go F k' 1 l2A 0 l4I l5I V = some (v, V1) → (∀ S1, mRel α S1 Ln V1 → mFr α S S1 → Φ v S1) → rX10_writePoints_go F k' 1 (α 7) (α l2A) 0 l4I l5I S Φ) := by
  intro k'
  induction k' with
  | zero => exact ⟨(fun _ _ _ _ _ _ _ h _ => by cases h), (fun _ _ _ _ _ _ _ h _ => by cases h)⟩
  | succ k' ih =>
    refine ⟨?_, ?_⟩
    · intro l2A l3I l4I S V R sl2A h k
      rw [mX10_writePoints_go, if_pos rfl] at h
      rw [rX10_writePoints_go, if_pos rfl]
      unfold mX10_writePoints_b0 at h
      unfold rX10_writePoints_b0
      refine mIf h Iff.rfl (fun c1 h => ?_) (fun c1 h => ?_)
      · exact ih.2 _ _ _ _ _ R sl2A h (fun S1 R1 F1 => k S1 R1 F1)
      · refine mGd h (by rw [show gWords_size S (α 7) = V.fI 7 10 from (mg_I (i := 7) R (by decide) rfl 10)]) (fun c2 h => ?_)
        refine mGd h (by rw [show S.len (α l2A) = mLen l2A from (mg_len R (mA13 sl2A) rfl)]) (fun c3 h => ?_)
        obtain ⟨V4, eV4, h⟩ := mLt_some h
        refine mU_I eV4 R (mA13 sl2A) rfl rfl (by rw [show gWords_size S (α 7) = V.fI 7 10 from (mg_I (i := 7) R (by decide) rfl 10)]) (fun S4 R4 F4 => ?_)
        refine mGd h (by rw [show gWords_size S4 (α 7) = V4.fI 7 10 from (mg_I (i := 7) R4 (by decide) rfl 10)]) (fun c4 h => ?_)
        refine mLet h (by rw [show gWords_size S4 (α 7) = V4.fI 7 10 from (mg_I (i := 7) R4 (by decide) rfl 10)]) (fun x6 ex6 h => ?_)
        refine mLet h rfl (fun x7 ex7 h => ?_)
        exact ih.1 _ _ _ _ _ R4 sl2A h (fun S1 R1 F1 => k S1 R1 (F4.tr F1))
    · intro l2A l4I l5I S V R sl2A h k
      rw [mX10_writePoints_go, if_neg (by decide), if_pos rfl] at h
      rw [rX10_writePoints_go, if_neg (by decide), if_pos rfl]
      unfold mX10_writePoints_b1 at h
      unfold rX10_writePoints_b1
      refine mIf h (by rw [show gWords_size S (α 7) = V.fI 7 10 from (mg_I (i := 7) R (by decide) rfl 10)]) (fun c5 h => ?_) (fun c5 h => ?_)
      · obtain ⟨rfl, rfl⟩ := mRW h
        exact k _ R mFr.rf
      · refine mGd h (by rw [show S.len (α l2A) = mLen l2A from (mg_len R (mA13 sl2A) rfl)]) (fun c6 h => ?_)
        obtain ⟨v10, hv10, h⟩ := mBN_some h
        refine LX10_unusedPoint hv10 R rfl rfl (by rw [show S.rI (α l2A) (l5I).toNatClampNeg = V.rI l2A (l5I).toNatClampNeg from (mg_rI (i := l2A) R (mA13 sl2A) rfl rfl)]) ?_
        refine mGd h (by rw [show S.len (α l2A) = mLen l2A from (mg_len R (mA13 sl2A) rfl)]) (fun c7 h => ?_)
        obtain ⟨V16, eV16, h⟩ := mLt_some h
        refine mU_I eV16 R (mA13 sl2A) rfl rfl rfl (fun S16 R16 F16 => ?_)
        refine mGd h (by rw [show S16.len (α l2A) = mLen l2A from (mg_len R16 (mA13 sl2A) rfl)]) (fun c8 h => ?_)
        refine mLet h (by rw [show S16.rI (α l2A) (l5I).toNatClampNeg = V16.rI l2A (l5I).toNatClampNeg from (mg_rI (i := l2A) R16 (mA13 sl2A) rfl rfl)]) (fun x18 ex18 h => ?_)
        refine mLet h rfl (fun x19 ex19 h => ?_)
        exact ih.2 _ _ _ _ _ R16 sl2A h (fun S1 R1 F1 => k S1 R1 (F16.tr F1))
set_option maxHeartbeats 4000000 in
set_option maxRecDepth 100000 in
theorem LX10_writePoints {α : Nat → Nat} {F : Nat} {S : wPS} {Ln : Nat → Nat} {V V1 : mV} {v : Unit} {Φ : (Unit → wPS → Prop)} {l0Ax : Nat} {l1Ix l1I : Int32} {l2Ax : Nat} {l2A : Nat} (h : mX10_writePoints F l1I l2A V = some (v, V1)) (R : mRel α S Ln V) (sl2A : mK l2A = 13) (el0A : l0Ax = α 7) (el1I : l1Ix = l1I) (el2A : l2Ax = α l2A) (k : (∀ S1, mRel α S1 Ln V1 → mFr α S S1 → Φ v S1)) : rX10_writePoints F l0Ax l1Ix l2Ax S Φ := by
  have el0A := el0A.symm
  subst el0A
  have el1I := el1I.symm
  subst el1I
  have el2A := el2A.symm
  subst el2A
  have ih := LX10_writePoints_go  (α := α) (F := F) (v := v) (Ln := Ln) (Φ := Φ) (V1 := V1) F
  unfold mX10_writePoints mX10_writePoints_s at h
  unfold rX10_writePoints rX10_writePoints_s
  refine mLet h (by rw [show gWords_size S (α 7) = V.fI 7 10 from (mg_I (i := 7) R (by decide) rfl 10)]) (fun x20 ex20 h => ?_)
  exact ih.1 _ _ _ _ _ R sl2A h (fun S1 R1 F1 => k S1 R1 F1)
def mX10_writeRows_b0 (F : Nat) (rec : Nat → (Nat → Nat) → Nat → Int32 → Int32 → mV → Option (Unit × (Nat → Nat) × mV)) (Ln : Nat → Nat) (l1A : Nat) (l2I : Int32) (V : mV) : Option (Unit × (Nat → Nat) × mV) :=
  (if (V.fI 7 10) < l2I then some ((), Ln, V) else (mBW (mX9_clear F l1A V) fun v2 V3 => (mBA (mX9_add F Ln l1A (l2I) V3) fun v7 L8 V8 => (rec 1 L8 l1A (l2I) ((0 : Int32)) V8))))
def mX10_writeRows_b1 (F : Nat) (rec : Nat → (Nat → Nat) → Nat → Int32 → Int32 → mV → Option (Unit × (Nat → Nat) × mV)) (Ln : Nat → Nat) (l1A : Nat) (l2I : Int32) (l3I : Int32) (V : mV) : Option (Unit × (Nat → Nat) × mV) :=
  (if (720 : Int32) ≤ l3I then (mBN (mX10_codeOf F 76 (l2I) V) fun v13 => (mBN (mX9_holds F Ln l1A ((1 : Int32)) (v13) V) fun v18 => (if v18 = 0 then some ((), Ln, V) else (mLt (l2I + (1 : Int32)) fun x24 => (rec 0 Ln l1A (x24) 0 V))))) else (if l3I < 0 ∨ 720 ≤ (l3I).toNatClampNeg then none else (if (V.rI 81 (l3I).toNatClampNeg) < 0 then (mLt (l3I + (1 : Int32)) fun x27 => (rec 1 Ln l1A (l2I) (x27) V)) else (mBW (mX10_writePoints F (l3I) 77 V) fun v28 V29 => (mBN (mX10_codeOf F 77 (l2I) V29) fun v33 => (if (V29.fI l1A 1) = (1 : Int32) then (mBA (mX9_add F Ln l1A (v33) V29) fun v39 L40 V40 => (mLt (l3I + (1 : Int32)) fun x44 => (rec 1 L40 l1A (l2I) (x44) V40))) else (mBN (mX9_at F Ln l1A (((V29.fI l1A 1) - (1 : Int32))) V29) fun v45 => (if v45 = v33 then (mLt (l3I + (1 : Int32)) fun x51 => (rec 1 Ln l1A (l2I) (x51) V29)) else (mBA (mX9_add F Ln l1A (v33) V29) fun v52 L53 V53 => (mLt (l3I + (1 : Int32)) fun x57 => (rec 1 L53 l1A (l2I) (x57) V53)))))))))))
def mX10_writeRows_go (F : Nat) : Nat → Nat → (Nat → Nat) → Nat → Int32 → Int32 → mV → Option (Unit × (Nat → Nat) × mV)
  | 0, _, _, _, _, _, _ => none
  | k' + 1, lab, Ln, l1A, l2I, l3I, V => if lab = 0 then mX10_writeRows_b0 F (mX10_writeRows_go F k') Ln l1A l2I V else if lab = 1 then mX10_writeRows_b1 F (mX10_writeRows_go F k') Ln l1A l2I l3I V else none
def mX10_writeRows_s (F : Nat) (rec : Nat → (Nat → Nat) → Nat → Int32 → Int32 → mV → Option (Unit × (Nat → Nat) × mV)) (Ln : Nat → Nat) (l1A : Nat) (V : mV) : Option (Unit × (Nat → Nat) × mV) :=
  (rec 0 Ln l1A ((1 : Int32)) 0 V)
def mX10_writeRows (F : Nat) (Ln : Nat → Nat) (l1A : Nat) (V : mV) : Option (Unit × (Nat → Nat) × mV) := mX10_writeRows_s F (mX10_writeRows_go F F) Ln l1A V
set_option maxHeartbeats 4000000 in
set_option maxRecDepth 100000 in
theorem MX10_writeRows_go {F : Nat} {v : Unit} {Ln1 : Nat → Nat} {V1 : mV} : ∀ k' : Nat, (∀ (l1A : Nat) (l2I : Int32) (Ln : Nat → Nat) (V : mV), mX10_writeRows_go F k' 0 Ln l1A l2I 0 V = some (v, Ln1, V1) → mP Ln1 ≤ mP Ln) ∧ (∀ (l1A : Nat) (l2I : Int32) (l3I : Int32) (Ln : Nat → Nat) (V : mV), mX10_writeRows_go F k' 1 Ln l1A l2I l3I V = some (v, Ln1, V1) → mP Ln1 ≤ mP Ln) := by
  intro k'
  induction k' with
  | zero => exact ⟨(fun _ _ _ _ h => by cases h), (fun _ _ _ _ _ h => by cases h)⟩
  | succ k' ihM =>
    refine ⟨?_, ?_⟩
    · intro l1A l2I Ln V h
      rw [mX10_writeRows_go, if_pos rfl] at h
      unfold mX10_writeRows_b0 at h
      rcases mIf_some h with ⟨_, h⟩ | ⟨_, h⟩
      · cases h
        exact Nat.le_refl _
      · obtain ⟨_, _, _, h⟩ := mBW_some h
        obtain ⟨_, _, _, z1, h⟩ := mBA_some h
        refine Nat.le_trans ?_ (MX9_add z1)
        exact ihM.2 _ _ _ _ _ h
    · intro l1A l2I l3I Ln V h
      rw [mX10_writeRows_go, if_neg (by decide), if_pos rfl] at h
      unfold mX10_writeRows_b1 at h
      rcases mIf_some h with ⟨_, h⟩ | ⟨_, h⟩
      · obtain ⟨_, _, h⟩ := mBN_some h
        obtain ⟨_, _, h⟩ := mBN_some h
        rcases mIf_some h with ⟨_, h⟩ | ⟨_, h⟩
        · cases h
          exact Nat.le_refl _
        · obtain ⟨_, _, h⟩ := mLt_some h
          exact ihM.1 _ _ _ _ h
      · obtain ⟨_, h⟩ := mGd_some h
        rcases mIf_some h with ⟨_, h⟩ | ⟨_, h⟩
        · obtain ⟨_, _, h⟩ := mLt_some h
          exact ihM.2 _ _ _ _ _ h
        · obtain ⟨_, _, _, h⟩ := mBW_some h
          obtain ⟨_, _, h⟩ := mBN_some h
          rcases mIf_some h with ⟨_, h⟩ | ⟨_, h⟩
          · obtain ⟨_, _, _, z2, h⟩ := mBA_some h
            refine Nat.le_trans ?_ (MX9_add z2)
            obtain ⟨_, _, h⟩ := mLt_some h
            exact ihM.2 _ _ _ _ _ h
          · obtain ⟨_, _, h⟩ := mBN_some h
            rcases mIf_some h with ⟨_, h⟩ | ⟨_, h⟩
            · obtain ⟨_, _, h⟩ := mLt_some h
              exact ihM.2 _ _ _ _ _ h
            · obtain ⟨_, _, _, z3, h⟩ := mBA_some h
              refine Nat.le_trans ?_ (MX9_add z3)
              obtain ⟨_, _, h⟩ := mLt_some h
              exact ihM.2 _ _ _ _ _ h
set_option maxHeartbeats 4000000 in
set_option maxRecDepth 100000 in
theorem MX10_writeRows {F : Nat} {Ln Ln1 : Nat → Nat} {V V1 : mV} {v : Unit} {l1A : Nat} (h : mX10_writeRows F Ln l1A V = some (v, Ln1, V1)) : mP Ln1 ≤ mP Ln := by
  have ihM := MX10_writeRows_go (F := F) (v := v) (Ln1 := Ln1) (V1 := V1) F
  unfold mX10_writeRows mX10_writeRows_s at h
  exact ihM.1 _ _ _ _ h
set_option maxHeartbeats 4000000 in
set_option maxRecDepth 100000 in
theorem LX10_writeRows_go {α : Nat → Nat} {k0 n0 : Nat} {F : Nat} {v : Unit} {Ln1 : Nat → Nat} {V1 : mV} {Φ : (Unit → wPS → Prop)} : ∀ k' : Nat, (∀ (l1A : Nat) (l2I : Int32) (S : wPS) (V : mV) (Ln : Nat → Nat) (c s : Nat), mRel α S Ln V → mK l1A = 9 → mX10_writeRows_go F k' 0 Ln l1A l2I 0 V = some (v, Ln1, V1) → c + (mP Ln - mP Ln1) / 16 ≤ k0 → s + (mP Ln - mP Ln1) ≤ n0 → (∀ S1, mRel α S1 Ln1 V1 → mFr α S S1 → Φ v S1) → rX10_writeRows_go F k0 n0 k' 0 c s (α 7) (α l1A) l2I 0 S Φ) ∧ (∀ (l1A : Nat) (l2I : Int32) (l3I : Int32) (S : wPS) (V : mV) (Ln : Nat → Nat) (c s : Nat), mRel α S Ln V → mK l1A = 9 → mX10_writeRows_go F k' 1 Ln l1A l2I l3I V = some (v, Ln1, V1) → c + (mP Ln - mP Ln1) / 16 ≤ k0 → s + (mP Ln - mP Ln1) ≤ n0 → (∀ S1, mRel α S1 Ln1 V1 → mFr α S S1 → Φ v S1) → rX10_writeRows_go F k0 n0 k' 1 c s (α 7) (α l1A) l2I l3I S Φ) := by
  intro k'
  induction k' with
  | zero => exact ⟨(fun _ _ _ _ _ _ _ _ _ h _ _ _ => by cases h), (fun _ _ _ _ _ _ _ _ _ _ h _ _ _ => by cases h)⟩
  | succ k' ih =>
    have ihM := MX10_writeRows_go (F := F) (v := v) (Ln1 := Ln1) (V1 := V1) k'
    refine ⟨?_, ?_⟩
    · intro l1A l2I S V Ln c s R sl1A h hk hn k
      rw [mX10_writeRows_go, if_pos rfl] at h
      rw [rX10_writeRows_go, if_pos rfl]
      unfold mX10_writeRows_b0 at h
      unfold rX10_writeRows_b0
      refine mIf h (by rw [show gWords_size S (α 7) = V.fI 7 10 from (mg_I (i := 7) R (by decide) rfl 10)]) (fun c4 h => ?_) (fun c4 h => ?_)
      · obtain ⟨rfl, rfl, rfl⟩ := mRA3 h
        exact k _ R mFr.rf
      · obtain ⟨v2, V3, hv2, h⟩ := mBW_some h
        refine LX9_clear hv2 R sl1A rfl (fun S3 R3 F3 => ?_)
        obtain ⟨v7, L8, V8, hv7, h⟩ := mBA_some h
        have mv7 : mP L8 ≤ mP Ln := MX9_add hv7
        have qv7 : mP Ln1 ≤ mP L8 := by
          exact ihM.2 _ _ _ _ _ h
        refine ⟨(mP Ln - mP L8) / 16, mP Ln - mP L8, by omega, by omega, ?_⟩
        refine LX9_add hv7 R3 sl1A rfl rfl (by omega) (by omega) (fun S8 R8 F8 => ?_)
        exact ih.2 _ _ _ _ _ _ _ _ R8 sl1A h (by omega) (by omega) (fun S1 R1 F1 => k S1 R1 (F3.tr (F8.tr F1)))
    · intro l1A l2I l3I S V Ln c s R sl1A h hk hn k
      rw [mX10_writeRows_go, if_neg (by decide), if_pos rfl] at h
      rw [rX10_writeRows_go, if_neg (by decide), if_pos rfl]
      unfold mX10_writeRows_b1 at h
      unfold rX10_writeRows_b1
      refine mIf h Iff.rfl (fun c5 h => ?_) (fun c5 h => ?_)
      · obtain ⟨v13, hv13, h⟩ := mBN_some h
        refine LX10_codeOf hv13 R rfl (mg_A (t := 76) R rfl rfl) rfl ?_
        obtain ⟨v18, hv18, h⟩ := mBN_some h
        refine LX9_holds hv18 R sl1A rfl rfl rfl ?_
        refine mIf h Iff.rfl (fun c6 h => ?_) (fun c6 h => ?_)
        · obtain ⟨rfl, rfl, rfl⟩ := mRA3 h
          exact k _ R mFr.rf
        · refine mLet h rfl (fun x24 ex24 h => ?_)
          exact ih.1 _ _ _ _ _ _ _ R sl1A h (by omega) (by omega) (fun S1 R1 F1 => k S1 R1 F1)
      · refine mGd h (by rw [show S.len (wkAd (gWords_cameBy S (α 7))) = 720 from (mg_len (i := 81) R (mA13 rfl) (mg_A (t := 81) R rfl rfl))]) (fun c7 h => ?_)
        refine mIf h (by rw [show S.rI (wkAd (gWords_cameBy S (α 7))) (l3I).toNatClampNeg = V.rI 81 (l3I).toNatClampNeg from (mg_rI (i := 81) R (mA13 rfl) (mg_A (t := 81) R rfl rfl) rfl)]) (fun c8 h => ?_) (fun c8 h => ?_)
        · refine mLet h rfl (fun x27 ex27 h => ?_)
          exact ih.2 _ _ _ _ _ _ _ _ R sl1A h (by omega) (by omega) (fun S1 R1 F1 => k S1 R1 F1)
        · obtain ⟨v28, V29, hv28, h⟩ := mBW_some h
          refine LX10_writePoints hv28 R rfl rfl rfl (mg_A (t := 77) R rfl rfl) (fun S29 R29 F29 => ?_)
          obtain ⟨v33, hv33, h⟩ := mBN_some h
          refine LX10_codeOf hv33 R29 rfl (mg_A (t := 77) R29 rfl rfl) rfl ?_
          refine mIf h (by rw [show gRow_count S29 (α l1A) = V29.fI l1A 1 from (mg_I (i := l1A) R29 (mO9 sl1A) rfl 1)]) (fun c9 h => ?_) (fun c9 h => ?_)
          · obtain ⟨v39, L40, V40, hv39, h⟩ := mBA_some h
            have mv39 : mP L40 ≤ mP Ln := MX9_add hv39
            have qv39 : mP Ln1 ≤ mP L40 := by
              obtain ⟨_, _, h⟩ := mLt_some h
              exact ihM.2 _ _ _ _ _ h
            refine ⟨(mP Ln - mP L40) / 16, mP Ln - mP L40, by omega, by omega, ?_⟩
            refine LX9_add hv39 R29 sl1A rfl rfl (by omega) (by omega) (fun S40 R40 F40 => ?_)
            refine mLet h rfl (fun x44 ex44 h => ?_)
            exact ih.2 _ _ _ _ _ _ _ _ R40 sl1A h (by omega) (by omega) (fun S1 R1 F1 => k S1 R1 (F29.tr (F40.tr F1)))
          · obtain ⟨v45, hv45, h⟩ := mBN_some h
            refine LX9_at hv45 R29 sl1A rfl (by rw [show gRow_count S29 (α l1A) = V29.fI l1A 1 from (mg_I (i := l1A) R29 (mO9 sl1A) rfl 1)]) ?_
            refine mIf h Iff.rfl (fun c10 h => ?_) (fun c10 h => ?_)
            · refine mLet h rfl (fun x51 ex51 h => ?_)
              exact ih.2 _ _ _ _ _ _ _ _ R29 sl1A h (by omega) (by omega) (fun S1 R1 F1 => k S1 R1 (F29.tr F1))
            · obtain ⟨v52, L53, V53, hv52, h⟩ := mBA_some h
              have mv52 : mP L53 ≤ mP Ln := MX9_add hv52
              have qv52 : mP Ln1 ≤ mP L53 := by
                obtain ⟨_, _, h⟩ := mLt_some h
                exact ihM.2 _ _ _ _ _ h
              refine ⟨(mP Ln - mP L53) / 16, mP Ln - mP L53, by omega, by omega, ?_⟩
              refine LX9_add hv52 R29 sl1A rfl rfl (by omega) (by omega) (fun S53 R53 F53 => ?_)
              refine mLet h rfl (fun x57 ex57 h => ?_)
              exact ih.2 _ _ _ _ _ _ _ _ R53 sl1A h (by omega) (by omega) (fun S1 R1 F1 => k S1 R1 (F29.tr (F53.tr F1)))
set_option maxHeartbeats 4000000 in
set_option maxRecDepth 100000 in
theorem LX10_writeRows {α : Nat → Nat} {F : Nat} {S : wPS} {Ln Ln1 : Nat → Nat} {V V1 : mV} {v : Unit} {Φ : (Unit → wPS → Prop)} {l0Ax : Nat} {l1Ax : Nat} {l1A : Nat} {k0 n0 : Nat} (h : mX10_writeRows F Ln l1A V = some (v, Ln1, V1)) (R : mRel α S Ln V) (sl1A : mK l1A = 9) (el0A : l0Ax = α 7) (el1A : l1Ax = α l1A) (hk : (mP Ln - mP Ln1) / 16 ≤ k0) (hn : mP Ln - mP Ln1 ≤ n0) (k : (∀ S1, mRel α S1 Ln1 V1 → mFr α S S1 → Φ v S1)) : rX10_writeRows F k0 n0 l0Ax l1Ax S Φ := by
  have el0A := el0A.symm
  subst el0A
  have el1A := el1A.symm
  subst el1A
  have ih := LX10_writeRows_go  (α := α) (F := F) (v := v) (k0 := k0) (n0 := n0) (Ln1 := Ln1) (Φ := Φ) (V1 := V1) F
  have ihM := MX10_writeRows_go (F := F) (v := v) (Ln1 := Ln1) (V1 := V1) F
  unfold mX10_writeRows mX10_writeRows_s at h
  unfold rX10_writeRows rX10_writeRows_s
  exact ih.1 _ _ _ _ _ _ _ R sl1A h (by omega) (by omega) (fun S1 R1 F1 => k S1 R1 F1)
def mX10_areRowsOf_b0 (F : Nat) (rec : Nat → (Nat → Nat) → Nat → Int32 → Int32 → Int32 → Int32 → Int32 → mV → Option (Int32 × mV)) (Ln : Nat → Nat) (l1A : Nat) (l2I : Int32) (l3I : Int32) (V : mV) : Option (Int32 × mV) :=
  (if (V.fI l1A 1) ≤ l3I then some ((1 : Int32), V) else (mBN (mX9_at F Ln l1A (l3I) V) fun v2 => (mBW (mX10_readCode F (v2) (l2I) V) fun v7 V8 => (rec 1 Ln l1A (l2I) (l3I) (v7) ((0 : Int32)) ((0 : Int32)) V8))))
def mX10_areRowsOf_b1 (F : Nat) (rec : Nat → (Nat → Nat) → Nat → Int32 → Int32 → Int32 → Int32 → Int32 → mV → Option (Int32 × mV)) (Ln : Nat → Nat) (l1A : Nat) (l2I : Int32) (l3I : Int32) (l4I : Int32) (l5I : Int32) (l6I : Int32) (V : mV) : Option (Int32 × mV) :=
  (if l2I ≤ l6I then (if l4I = 0 then (mBN (mJ6_bitCount_0f7a4 F (l5I)) fun v14 => (if v14 = l2I then (if (l5I >>> ((V.fI 7 10) &&& 31)) = 0 then (mLt (l3I + (1 : Int32)) fun x21 => (rec 0 Ln l1A (l2I) (x21) 0 0 0 V)) else some ((0 : Int32), V)) else some ((0 : Int32), V))) else some ((0 : Int32), V)) else (if l6I < 0 ∨ 6 ≤ (l6I).toNatClampNeg then none else (mLt (l5I ||| ((1 : Int32) <<< ((V.rI 77 (l6I).toNatClampNeg) &&& 31))) fun x23 => (mLt (l6I + (1 : Int32)) fun x24 => (rec 1 Ln l1A (l2I) (l3I) (l4I) (x23) (x24) V)))))
def mX10_areRowsOf_go (F : Nat) : Nat → Nat → (Nat → Nat) → Nat → Int32 → Int32 → Int32 → Int32 → Int32 → mV → Option (Int32 × mV)
  | 0, _, _, _, _, _, _, _, _, _ => none
  | k' + 1, lab, Ln, l1A, l2I, l3I, l4I, l5I, l6I, V => if lab = 0 then mX10_areRowsOf_b0 F (mX10_areRowsOf_go F k') Ln l1A l2I l3I V else if lab = 1 then mX10_areRowsOf_b1 F (mX10_areRowsOf_go F k') Ln l1A l2I l3I l4I l5I l6I V else none
def mX10_areRowsOf_s (F : Nat) (rec : Nat → (Nat → Nat) → Nat → Int32 → Int32 → Int32 → Int32 → Int32 → mV → Option (Int32 × mV)) (Ln : Nat → Nat) (l1A : Nat) (l2I : Int32) (V : mV) : Option (Int32 × mV) :=
  (rec 0 Ln l1A (l2I) ((1 : Int32)) 0 0 0 V)
def mX10_areRowsOf (F : Nat) (Ln : Nat → Nat) (l1A : Nat) (l2I : Int32) (V : mV) : Option (Int32 × mV) := mX10_areRowsOf_s F (mX10_areRowsOf_go F F) Ln l1A l2I V
set_option maxHeartbeats 4000000 in
set_option maxRecDepth 100000 in
theorem LX10_areRowsOf_go {α : Nat → Nat} {F : Nat} {v : Int32} {V1 : mV} {Φ : (Int32 → wPS → Prop)} : ∀ k' : Nat, (∀ (l1A : Nat) (l2I : Int32) (l3I : Int32) (S : wPS) (V : mV) (Ln : Nat → Nat) , mRel α S Ln V → mK l1A = 9 → mX10_areRowsOf_go F k' 0 Ln l1A l2I l3I 0 0 0 V = some (v, V1) → (∀ S1, mRel α S1 Ln V1 → mFr α S S1 → Φ v S1) → rX10_areRowsOf_go F k' 0 (α 7) (α l1A) l2I l3I 0 0 0 S Φ) ∧ (∀ (l1A : Nat) (l2I : Int32) (l3I : Int32) (l4I : Int32) (l5I : Int32) (l6I : Int32) (S : wPS) (V : mV) (Ln : Nat → Nat) , mRel α S Ln V → mK l1A = 9 → mX10_areRowsOf_go F k' 1 Ln l1A l2I l3I l4I l5I l6I V = some (v, V1) → (∀ S1, mRel α S1 Ln V1 → mFr α S S1 → Φ v S1) → rX10_areRowsOf_go F k' 1 (α 7) (α l1A) l2I l3I l4I l5I l6I S Φ) := by
  intro k'
  induction k' with
  | zero => exact ⟨(fun _ _ _ _ _ _ _ _ h _ => by cases h), (fun _ _ _ _ _ _ _ _ _ _ _ h _ => by cases h)⟩
  | succ k' ih =>
    refine ⟨?_, ?_⟩
    · intro l1A l2I l3I S V Ln R sl1A h k
      rw [mX10_areRowsOf_go, if_pos rfl] at h
      rw [rX10_areRowsOf_go, if_pos rfl]
      unfold mX10_areRowsOf_b0 at h
      unfold rX10_areRowsOf_b0
      refine mIf h (by rw [show gRow_count S (α l1A) = V.fI l1A 1 from (mg_I (i := l1A) R (mO9 sl1A) rfl 1)]) (fun c1 h => ?_) (fun c1 h => ?_)
      · obtain ⟨rfl, rfl⟩ := mRW h
        exact k _ R mFr.rf
      · obtain ⟨v2, hv2, h⟩ := mBN_some h
        refine LX9_at hv2 R sl1A rfl rfl ?_
        obtain ⟨v7, V8, hv7, h⟩ := mBW_some h
        refine LX10_readCode hv7 R rfl rfl rfl (fun S8 R8 F8 => ?_)
        exact ih.2 _ _ _ _ _ _ _ _ _ R8 sl1A h (fun S1 R1 F1 => k S1 R1 (F8.tr F1))
    · intro l1A l2I l3I l4I l5I l6I S V Ln R sl1A h k
      rw [mX10_areRowsOf_go, if_neg (by decide), if_pos rfl] at h
      rw [rX10_areRowsOf_go, if_neg (by decide), if_pos rfl]
      unfold mX10_areRowsOf_b1 at h
      unfold rX10_areRowsOf_b1
      refine mIf h Iff.rfl (fun c2 h => ?_) (fun c2 h => ?_)
      · refine mIf h Iff.rfl (fun c3 h => ?_) (fun c3 h => ?_)
        · obtain ⟨v14, hv14, h⟩ := mBN_some h
          refine LJ6_bitCount_0f7a4 hv14 rfl ?_
          refine mIf h Iff.rfl (fun c4 h => ?_) (fun c4 h => ?_)
          · refine mIf h (by rw [show gWords_size S (α 7) = V.fI 7 10 from (mg_I (i := 7) R (by decide) rfl 10)]) (fun c5 h => ?_) (fun c5 h => ?_)
            · refine mLet h rfl (fun x21 ex21 h => ?_)
              exact ih.1 _ _ _ _ _ _ R sl1A h (fun S1 R1 F1 => k S1 R1 F1)
            · obtain ⟨rfl, rfl⟩ := mRW h
              exact k _ R mFr.rf
          · obtain ⟨rfl, rfl⟩ := mRW h
            exact k _ R mFr.rf
        · obtain ⟨rfl, rfl⟩ := mRW h
          exact k _ R mFr.rf
      · refine mGd h (by rw [show S.len (wkAd (gWords_points S (α 7))) = 6 from (mg_len (i := 77) R (mA13 rfl) (mg_A (t := 77) R rfl rfl))]) (fun c6 h => ?_)
        refine mLet h (by rw [show S.rI (wkAd (gWords_points S (α 7))) (l6I).toNatClampNeg = V.rI 77 (l6I).toNatClampNeg from (mg_rI (i := 77) R (mA13 rfl) (mg_A (t := 77) R rfl rfl) rfl)]) (fun x23 ex23 h => ?_)
        refine mLet h rfl (fun x24 ex24 h => ?_)
        exact ih.2 _ _ _ _ _ _ _ _ _ R sl1A h (fun S1 R1 F1 => k S1 R1 F1)
set_option maxHeartbeats 4000000 in
set_option maxRecDepth 100000 in
theorem LX10_areRowsOf {α : Nat → Nat} {F : Nat} {S : wPS} {Ln : Nat → Nat} {V V1 : mV} {v : Int32} {Φ : (Int32 → wPS → Prop)} {l0Ax : Nat} {l1Ax : Nat} {l1A : Nat} {l2Ix l2I : Int32} (h : mX10_areRowsOf F Ln l1A l2I V = some (v, V1)) (R : mRel α S Ln V) (sl1A : mK l1A = 9) (el0A : l0Ax = α 7) (el1A : l1Ax = α l1A) (el2I : l2Ix = l2I) (k : (∀ S1, mRel α S1 Ln V1 → mFr α S S1 → Φ v S1)) : rX10_areRowsOf F l0Ax l1Ax l2Ix S Φ := by
  have el0A := el0A.symm
  subst el0A
  have el1A := el1A.symm
  subst el1A
  have el2I := el2I.symm
  subst el2I
  have ih := LX10_areRowsOf_go  (α := α) (F := F) (v := v) (Φ := Φ) (V1 := V1) F
  unfold mX10_areRowsOf mX10_areRowsOf_s at h
  unfold rX10_areRowsOf rX10_areRowsOf_s
  exact ih.1 _ _ _ _ _ _ R sl1A h (fun S1 R1 F1 => k S1 R1 F1)
def mX10_findNext_b0 (F : Nat) (rec : Nat → Nat → Int32 → Int32 → mV → Option (Unit × mV)) (l1A : Nat) (l2I : Int32) (l3I : Int32) (V : mV) : Option (Unit × mV) :=
  (if (V.fI l1A 6) ≤ l3I then some ((), V) else (mBN (mX3_at F l1A (l3I) ((0 : Int32)) V) fun v2 => (mBN (mX3_at F l1A (l3I) ((1 : Int32)) V) fun v7 => (mBW (mX10_replaceAll F l1A (l2I) (v2) (v7) V) fun v12 V13 => (mBN (mX3_at F l1A (l3I) ((1 : Int32)) V13) fun v17 => (mBN (mX3_at F l1A (l3I) ((0 : Int32)) V13) fun v22 => (mBW (mX10_replaceAll F l1A (l2I) (v17) (v22) V13) fun v27 V28 => (mLt (l3I + (1 : Int32)) fun x32 => (rec 0 l1A (l2I) (x32) V28)))))))))
def mX10_findNext_go (F : Nat) : Nat → Nat → Nat → Int32 → Int32 → mV → Option (Unit × mV)
  | 0, _, _, _, _, _ => none
  | k' + 1, lab, l1A, l2I, l3I, V => if lab = 0 then mX10_findNext_b0 F (mX10_findNext_go F k') l1A l2I l3I V else none
def mX10_findNext_s (F : Nat) (rec : Nat → Nat → Int32 → Int32 → mV → Option (Unit × mV)) (l1A : Nat) (l2I : Int32) (V : mV) : Option (Unit × mV) :=
  (mLt (mF V 7 9 ((0 : Int32))) fun V33 => (rec 0 l1A (l2I) ((1 : Int32)) V33))
def mX10_findNext (F : Nat) (l1A : Nat) (l2I : Int32) (V : mV) : Option (Unit × mV) := mX10_findNext_s F (mX10_findNext_go F F) l1A l2I V
set_option maxHeartbeats 4000000 in
set_option maxRecDepth 100000 in
theorem LX10_findNext_go {α : Nat → Nat} {F : Nat} {Ln : Nat → Nat} {v : Unit} {V1 : mV} {Φ : (Unit → wPS → Prop)} : ∀ k' : Nat, (∀ (l1A : Nat) (l2I : Int32) (l3I : Int32) (S : wPS) (V : mV) , mRel α S Ln V → mK l1A = 3 → mX10_findNext_go F k' 0 l1A l2I l3I V = some (v, V1) → (∀ S1, mRel α S1 Ln V1 → mFr α S S1 → Φ v S1) → rX10_findNext_go F k' 0 (α 7) (α l1A) l2I l3I S Φ) := by
  intro k'
  induction k' with
  | zero => exact (fun _ _ _ _ _ _ _ h _ => by cases h)
  | succ k' ih =>
    intro l1A l2I l3I S V R sl1A h k
    rw [mX10_findNext_go, if_pos rfl] at h
    rw [rX10_findNext_go, if_pos rfl]
    unfold mX10_findNext_b0 at h
    unfold rX10_findNext_b0
    refine mIf h (by rw [show gEntry_itemCount S (α l1A) = V.fI l1A 6 from (mg_I (i := l1A) R (mO3 sl1A) rfl 6)]) (fun c1 h => ?_) (fun c1 h => ?_)
    · obtain ⟨rfl, rfl⟩ := mRW h
      exact k _ R mFr.rf
    · obtain ⟨v2, hv2, h⟩ := mBN_some h
      refine LX3_at hv2 R sl1A rfl rfl rfl ?_
      obtain ⟨v7, hv7, h⟩ := mBN_some h
      refine LX3_at hv7 R sl1A rfl rfl rfl ?_
      obtain ⟨v12, V13, hv12, h⟩ := mBW_some h
      refine LX10_replaceAll hv12 R sl1A rfl rfl rfl rfl rfl (fun S13 R13 F13 => ?_)
      obtain ⟨v17, hv17, h⟩ := mBN_some h
      refine LX3_at hv17 R13 sl1A rfl rfl rfl ?_
      obtain ⟨v22, hv22, h⟩ := mBN_some h
      refine LX3_at hv22 R13 sl1A rfl rfl rfl ?_
      obtain ⟨v27, V28, hv27, h⟩ := mBW_some h
      refine LX10_replaceAll hv27 R13 sl1A rfl rfl rfl rfl rfl (fun S28 R28 F28 => ?_)
      refine mLet h rfl (fun x32 ex32 h => ?_)
      exact ih _ _ _ _ _ R28 sl1A h (fun S1 R1 F1 => k S1 R1 (F13.tr (F28.tr F1)))
set_option maxHeartbeats 4000000 in
set_option maxRecDepth 100000 in
theorem LX10_findNext {α : Nat → Nat} {F : Nat} {S : wPS} {Ln : Nat → Nat} {V V1 : mV} {v : Unit} {Φ : (Unit → wPS → Prop)} {l0Ax : Nat} {l1Ax : Nat} {l1A : Nat} {l2Ix l2I : Int32} (h : mX10_findNext F l1A l2I V = some (v, V1)) (R : mRel α S Ln V) (sl1A : mK l1A = 3) (el0A : l0Ax = α 7) (el1A : l1Ax = α l1A) (el2I : l2Ix = l2I) (k : (∀ S1, mRel α S1 Ln V1 → mFr α S S1 → Φ v S1)) : rX10_findNext F l0Ax l1Ax l2Ix S Φ := by
  have el0A := el0A.symm
  subst el0A
  have el1A := el1A.symm
  subst el1A
  have el2I := el2I.symm
  subst el2I
  have ih := LX10_findNext_go  (α := α) (F := F) (v := v) (Ln := Ln) (Φ := Φ) (V1 := V1) F
  unfold mX10_findNext mX10_findNext_s at h
  unfold rX10_findNext rX10_findNext_s
  obtain ⟨V33, eV33, h⟩ := mLt_some h
  refine mU_F eV33 R (by decide) rfl rfl (fun S33 R33 F33 => ?_)
  exact ih _ _ _ _ _ R33 sl1A h (fun S1 R1 F1 => k S1 R1 (F33.tr F1))
end
