/-! LIFTED BY PROGRAM (lift.py): X8_fulfilItem, X8_writeModulus, X8_baseOf, X8_judgePrime, X8_rootsOfPart, X8_addRest. -/
section
def mX8_fulfilItem_b0 (F : Nat) (rec : Nat → Nat → Int32 → Int64 → Int32 → Int32 → mV → Option (Int32 × mV)) (l1A : Nat) (l2I : Int32) (l3J : Int64) (l5I : Int32) (V : mV) : Option (Int32 × mV) :=
  (if (V.fI l1A 1) ≤ l5I then (rec 1 l1A (l2I) (l3J) ((0 : Int32)) 0 V) else (mBN (mX3_at F l1A (l2I) (l5I) V) fun v2 => (if l5I < 0 ∨ 4 ≤ (l5I).toNatClampNeg then none else (mLt (l3J - ((Int32.toInt64 v2) * (V.rJ 54 (l5I).toNatClampNeg))) fun x8 => (mLt (l5I + (1 : Int32)) fun x9 => (rec 0 l1A (l2I) (x8) (x9) 0 V))))))
def mX8_fulfilItem_b1 (F : Nat) (rec : Nat → Nat → Int32 → Int64 → Int32 → Int32 → mV → Option (Int32 × mV)) (l1A : Nat) (l2I : Int32) (l3J : Int64) (l5I : Int32) (V : mV) : Option (Int32 × mV) :=
  (if (V.fI 6 3) ≤ l5I then (mBW (mX8_gather F V) fun v11 V12 => (if v11 < 0 then (if (lg_cmp l3J (0 : Int64)) = 0 then some ((1 : Int32), V12) else some ((0 : Int32), V12)) else (if v11 < 0 ∨ 4 ≤ (v11).toNatClampNeg then none else (if (lg_cmp (V12.rJ 60 (v11).toNatClampNeg) (0 : Int64)) = 0 then (if (lg_cmp l3J (0 : Int64)) = 0 then some ((1 : Int32), V12) else some ((0 : Int32), V12)) else (if v11 < 0 ∨ 4 ≤ (v11).toNatClampNeg then none else (if (V12.rJ 60 (v11).toNatClampNeg) = 0 then none else (if (lg_cmp (l3J - l3J / (V12.rJ 60 (v11).toNatClampNeg) * (V12.rJ 60 (v11).toNatClampNeg)) (0 : Int64)) = 0 then (if v11 < 0 ∨ 4 ≤ (v11).toNatClampNeg then none else (if (V12.rJ 60 (v11).toNatClampNeg) = 0 then none else (mBW (mX8_movePoint F (v11) ((l3J / (V12.rJ 60 (v11).toNatClampNeg))) V12) fun v25 V26 => (mBW (mX8_removeBasis F (v11) V26) fun v30 V31 => some ((1 : Int32), V31))))) else some ((0 : Int32), V12)))))))) else (if l5I < 0 ∨ 4 ≤ (l5I).toNatClampNeg then none else (mLt (mJ V 60 (l5I) ((0 : Int64))) fun V37 => (rec 2 l1A (l2I) (l3J) (l5I) ((0 : Int32)) V37))))
def mX8_fulfilItem_b2 (F : Nat) (rec : Nat → Nat → Int32 → Int64 → Int32 → Int32 → mV → Option (Int32 × mV)) (l1A : Nat) (l2I : Int32) (l3J : Int64) (l5I : Int32) (l6I : Int32) (V : mV) : Option (Int32 × mV) :=
  (if (V.fI l1A 1) ≤ l6I then (mLt (l5I + (1 : Int32)) fun x39 => (rec 1 l1A (l2I) (l3J) (x39) 0 V)) else (if l5I < 0 ∨ 4 ≤ (l5I).toNatClampNeg then none else (mBN (mX3_at F l1A (l2I) (l6I) V) fun v41 => (if l5I < 0 ∨ 4 ≤ (l5I).toNatClampNeg then none else (if l6I < 0 ∨ 4 ≤ (l6I).toNatClampNeg then none else (if l5I < 0 ∨ 4 ≤ (l5I).toNatClampNeg then none else (mLt (mJ V 60 (l5I) (((V.rJ 60 (l5I).toNatClampNeg) + ((Int32.toInt64 v41) * (V.rJ (56 + (l5I).toNatClampNeg) (l6I).toNatClampNeg))))) fun V50 => (mLt (l6I + (1 : Int32)) fun x51 => (rec 2 l1A (l2I) (l3J) (l5I) (x51) V50)))))))))
def mX8_fulfilItem_go (F : Nat) : Nat → Nat → Nat → Int32 → Int64 → Int32 → Int32 → mV → Option (Int32 × mV)
  | 0, _, _, _, _, _, _, _ => none
  | k' + 1, lab, l1A, l2I, l3J, l5I, l6I, V => if lab = 0 then mX8_fulfilItem_b0 F (mX8_fulfilItem_go F k') l1A l2I l3J l5I V else if lab = 1 then mX8_fulfilItem_b1 F (mX8_fulfilItem_go F k') l1A l2I l3J l5I V else if lab = 2 then mX8_fulfilItem_b2 F (mX8_fulfilItem_go F k') l1A l2I l3J l5I l6I V else none
def mX8_fulfilItem_s (F : Nat) (rec : Nat → Nat → Int32 → Int64 → Int32 → Int32 → mV → Option (Int32 × mV)) (l1A : Nat) (l2I : Int32) (V : mV) : Option (Int32 × mV) :=
  (mBN (mX8_rightSide F l1A (l2I) V) fun v52 => (mLt (Int32.toInt64 v52) fun x57 => (rec 0 l1A (l2I) (x57) ((0 : Int32)) 0 V)))
def mX8_fulfilItem (F : Nat) (l1A : Nat) (l2I : Int32) (V : mV) : Option (Int32 × mV) := mX8_fulfilItem_s F (mX8_fulfilItem_go F F) l1A l2I V
set_option maxHeartbeats 4000000 in
set_option maxRecDepth 100000 in
theorem LX8_fulfilItem_go {α : Nat → Nat} {F : Nat} {Ln : Nat → Nat} {v : Int32} {V1 : mV} {Φ : (Int32 → wPS → Prop)} : ∀ k' : Nat, (∀ (l1A : Nat) (l2I : Int32) (l3J : Int64) (l5I : Int32) (S : wPS) (V : mV) , mRel α S Ln V → mK l1A = 3 → mX8_fulfilItem_go F k' 0 l1A l2I l3J l5I 0 V = some (v, V1) → (∀ S1, mRel α S1 Ln V1 → mFr α S S1 → Φ v S1) → rX8_fulfilItem_go F k' 0 (α 6) (α l1A) l2I l3J l5I 0 S Φ) ∧ (∀ (l1A : Nat) (l2I : Int32) (l3J : Int64) (l5I : Int32) (S : wPS) (V : mV) , mRel α S Ln V → mK l1A = 3 → mX8_fulfilItem_go F k' 1 l1A l2I l3J l5I 0 V = some (v, V1) → (∀ S1, mRel α S1 Ln V1 → mFr α S S1 → Φ v S1) → rX8_fulfilItem_go F k' 1 (α 6) (α l1A) l2I l3J l5I 0 S Φ) ∧ (∀ (l1A : Nat) (l2I : Int32) (l3J : Int64) (l5I : Int32) (l6I : Int32) (S : wPS) (V : mV) , mRel α S Ln V → mK l1A = 3 → mX8_fulfilItem_go F k' 2 l1A l2I l3J l5I l6I V = some (v, V1) → (∀ S1, mRel α S1 Ln V1 → mFr α S S1 → Φ v S1) → rX8_fulfilItem_go F k' 2 (α 6) (α l1A) l2I l3J l5I l6I S Φ) := by
  intro k'
  induction k' with
  | zero => exact ⟨(fun _ _ _ _ _ _ _ _ h _ => by cases h), (fun _ _ _ _ _ _ _ _ h _ => by cases h), (fun _ _ _ _ _ _ _ _ _ h _ => by cases h)⟩
  | succ k' ih =>
    refine ⟨?_, ?_, ?_⟩
    · intro l1A l2I l3J l5I S V R sl1A h k
      rw [mX8_fulfilItem_go, if_pos rfl] at h
      rw [rX8_fulfilItem_go, if_pos rfl]
      unfold mX8_fulfilItem_b0 at h
      unfold rX8_fulfilItem_b0
      refine mIf h (by rw [show gEntry_size S (α l1A) = V.fI l1A 1 from (mg_I (i := l1A) R (mO3 sl1A) rfl 1)]) (fun c1 h => ?_) (fun c1 h => ?_)
      · exact ih.2.1 _ _ _ _ _ _ R sl1A h (fun S1 R1 F1 => k S1 R1 F1)
      · obtain ⟨v2, hv2, h⟩ := mBN_some h
        refine LX3_at hv2 R sl1A rfl rfl rfl ?_
        refine mGd h (by rw [show S.len (wkAd (gNumbers_point S (α 6))) = 4 from (mg_len (i := 54) R (mA14 rfl) (mg_A (t := 54) R rfl rfl))]) (fun c2 h => ?_)
        refine mLet h (by rw [show S.rJ (wkAd (gNumbers_point S (α 6))) (l5I).toNatClampNeg = V.rJ 54 (l5I).toNatClampNeg from (mg_rJ (i := 54) R (mA14 rfl) (mg_A (t := 54) R rfl rfl) rfl)]) (fun x8 ex8 h => ?_)
        refine mLet h rfl (fun x9 ex9 h => ?_)
        exact ih.1 _ _ _ _ _ _ R sl1A h (fun S1 R1 F1 => k S1 R1 F1)
    · intro l1A l2I l3J l5I S V R sl1A h k
      rw [mX8_fulfilItem_go, if_neg (by decide), if_pos rfl] at h
      rw [rX8_fulfilItem_go, if_neg (by decide), if_pos rfl]
      unfold mX8_fulfilItem_b1 at h
      unfold rX8_fulfilItem_b1
      refine mIf h (by rw [show gNumbers_basisCount S (α 6) = V.fI 6 3 from (mg_I (i := 6) R (by decide) rfl 3)]) (fun c3 h => ?_) (fun c3 h => ?_)
      · obtain ⟨v11, V12, hv11, h⟩ := mBW_some h
        refine LX8_gather hv11 R rfl (fun S12 R12 F12 => ?_)
        refine mIf h Iff.rfl (fun c4 h => ?_) (fun c4 h => ?_)
        · refine mIf h Iff.rfl (fun c5 h => ?_) (fun c5 h => ?_)
          · obtain ⟨rfl, rfl⟩ := mRW h
            exact k _ R12 F12
          · obtain ⟨rfl, rfl⟩ := mRW h
            exact k _ R12 F12
        · refine mGd h (by rw [show S12.len (wkAd (gNumbers_amounts S12 (α 6))) = 4 from (mg_len (i := 60) R12 (mA14 rfl) (mg_A (t := 60) R12 rfl rfl))]) (fun c6 h => ?_)
          refine mIf h (by rw [show S12.rJ (wkAd (gNumbers_amounts S12 (α 6))) (v11).toNatClampNeg = V12.rJ 60 (v11).toNatClampNeg from (mg_rJ (i := 60) R12 (mA14 rfl) (mg_A (t := 60) R12 rfl rfl) rfl)]) (fun c7 h => ?_) (fun c7 h => ?_)
          · refine mIf h Iff.rfl (fun c8 h => ?_) (fun c8 h => ?_)
            · obtain ⟨rfl, rfl⟩ := mRW h
              exact k _ R12 F12
            · obtain ⟨rfl, rfl⟩ := mRW h
              exact k _ R12 F12
          · refine mGd h (by rw [show S12.len (wkAd (gNumbers_amounts S12 (α 6))) = 4 from (mg_len (i := 60) R12 (mA14 rfl) (mg_A (t := 60) R12 rfl rfl))]) (fun c9 h => ?_)
            refine mGd h (by rw [show S12.rJ (wkAd (gNumbers_amounts S12 (α 6))) (v11).toNatClampNeg = V12.rJ 60 (v11).toNatClampNeg from (mg_rJ (i := 60) R12 (mA14 rfl) (mg_A (t := 60) R12 rfl rfl) rfl)]) (fun c10 h => ?_)
            refine mIf h (by rw [show S12.rJ (wkAd (gNumbers_amounts S12 (α 6))) (v11).toNatClampNeg = V12.rJ 60 (v11).toNatClampNeg from (mg_rJ (i := 60) R12 (mA14 rfl) (mg_A (t := 60) R12 rfl rfl) rfl)]) (fun c11 h => ?_) (fun c11 h => ?_)
            · refine mGd h (by rw [show S12.len (wkAd (gNumbers_amounts S12 (α 6))) = 4 from (mg_len (i := 60) R12 (mA14 rfl) (mg_A (t := 60) R12 rfl rfl))]) (fun c12 h => ?_)
              refine mGd h (by rw [show S12.rJ (wkAd (gNumbers_amounts S12 (α 6))) (v11).toNatClampNeg = V12.rJ 60 (v11).toNatClampNeg from (mg_rJ (i := 60) R12 (mA14 rfl) (mg_A (t := 60) R12 rfl rfl) rfl)]) (fun c13 h => ?_)
              obtain ⟨v25, V26, hv25, h⟩ := mBW_some h
              refine LX8_movePoint hv25 R12 rfl rfl (by rw [show S12.rJ (wkAd (gNumbers_amounts S12 (α 6))) (v11).toNatClampNeg = V12.rJ 60 (v11).toNatClampNeg from (mg_rJ (i := 60) R12 (mA14 rfl) (mg_A (t := 60) R12 rfl rfl) rfl)]) (fun S26 R26 F26 => ?_)
              obtain ⟨v30, V31, hv30, h⟩ := mBW_some h
              refine LX8_removeBasis hv30 R26 rfl rfl (fun S31 R31 F31 => ?_)
              obtain ⟨rfl, rfl⟩ := mRW h
              exact k _ R31 (F12.tr (F26.tr F31))
            · obtain ⟨rfl, rfl⟩ := mRW h
              exact k _ R12 F12
      · refine mGd h (by rw [show S.len (wkAd (gNumbers_amounts S (α 6))) = 4 from (mg_len (i := 60) R (mA14 rfl) (mg_A (t := 60) R rfl rfl))]) (fun c14 h => ?_)
        obtain ⟨V37, eV37, h⟩ := mLt_some h
        refine mU_J eV37 R (mA14 rfl) (mg_A (t := 60) R rfl rfl) rfl rfl (fun S37 R37 F37 => ?_)
        exact ih.2.2 _ _ _ _ _ _ _ R37 sl1A h (fun S1 R1 F1 => k S1 R1 (F37.tr F1))
    · intro l1A l2I l3J l5I l6I S V R sl1A h k
      rw [mX8_fulfilItem_go, if_neg (by decide), if_neg (by decide), if_pos rfl] at h
      rw [rX8_fulfilItem_go, if_neg (by decide), if_neg (by decide), if_pos rfl]
      unfold mX8_fulfilItem_b2 at h
      unfold rX8_fulfilItem_b2
      refine mIf h (by rw [show gEntry_size S (α l1A) = V.fI l1A 1 from (mg_I (i := l1A) R (mO3 sl1A) rfl 1)]) (fun c15 h => ?_) (fun c15 h => ?_)
      · refine mLet h rfl (fun x39 ex39 h => ?_)
        exact ih.2.1 _ _ _ _ _ _ R sl1A h (fun S1 R1 F1 => k S1 R1 F1)
      · refine mGd h (by rw [show S.len (wkAd (gNumbers_amounts S (α 6))) = 4 from (mg_len (i := 60) R (mA14 rfl) (mg_A (t := 60) R rfl rfl))]) (fun c16 h => ?_)
        obtain ⟨v41, hv41, h⟩ := mBN_some h
        refine LX3_at hv41 R sl1A rfl rfl rfl ?_
        refine mGd h (by rw [show S.len (wkAd (gNumbers_basis S (α 6))) = 4 from (mg_len (i := 55) R (mAr (by decide)) (mg_A (t := 55) R rfl rfl))]) (fun c17 h => ?_)
        refine mGd h (by rw [show S.len (wkAd (S.rA (wkAd (gNumbers_basis S (α 6))) (l5I).toNatClampNeg)) = 4 from ((mg_len R (mA14 (mKA55 (Nat.lt_of_not_le (fun z => c17 (Or.inr z))))) (mg_RA R (mRA55 (Nat.lt_of_not_le (fun z => c17 (Or.inr z)))) (mg_A (t := 55) R rfl rfl) rfl)).trans (mLA55 (Nat.lt_of_not_le (fun z => c17 (Or.inr z)))))]) (fun c18 h => ?_)
        refine mGd h (by rw [show S.len (wkAd (gNumbers_amounts S (α 6))) = 4 from (mg_len (i := 60) R (mA14 rfl) (mg_A (t := 60) R rfl rfl))]) (fun c19 h => ?_)
        obtain ⟨V50, eV50, h⟩ := mLt_some h
        refine mU_J eV50 R (mA14 rfl) (mg_A (t := 60) R rfl rfl) rfl (by rw [show S.rJ (wkAd (S.rA (wkAd (gNumbers_basis S (α 6))) (l5I).toNatClampNeg)) (l6I).toNatClampNeg = V.rJ (56 + (l5I).toNatClampNeg) (l6I).toNatClampNeg from (mg_rJ (i := (56 + (l5I).toNatClampNeg)) R (mA14 (mKA55 (Nat.lt_of_not_le (fun z => c19 (Or.inr z))))) (mg_RA R (mRA55 (Nat.lt_of_not_le (fun z => c19 (Or.inr z)))) (mg_A (t := 55) R rfl rfl) rfl) rfl), show S.rJ (wkAd (gNumbers_amounts S (α 6))) (l5I).toNatClampNeg = V.rJ 60 (l5I).toNatClampNeg from (mg_rJ (i := 60) R (mA14 rfl) (mg_A (t := 60) R rfl rfl) rfl)]) (fun S50 R50 F50 => ?_)
        refine mLet h rfl (fun x51 ex51 h => ?_)
        exact ih.2.2 _ _ _ _ _ _ _ R50 sl1A h (fun S1 R1 F1 => k S1 R1 (F50.tr F1))
set_option maxHeartbeats 4000000 in
set_option maxRecDepth 100000 in
theorem LX8_fulfilItem {α : Nat → Nat} {F : Nat} {S : wPS} {Ln : Nat → Nat} {V V1 : mV} {v : Int32} {Φ : (Int32 → wPS → Prop)} {l0Ax : Nat} {l1Ax : Nat} {l1A : Nat} {l2Ix l2I : Int32} (h : mX8_fulfilItem F l1A l2I V = some (v, V1)) (R : mRel α S Ln V) (sl1A : mK l1A = 3) (el0A : l0Ax = α 6) (el1A : l1Ax = α l1A) (el2I : l2Ix = l2I) (k : (∀ S1, mRel α S1 Ln V1 → mFr α S S1 → Φ v S1)) : rX8_fulfilItem F l0Ax l1Ax l2Ix S Φ := by
  have el0A := el0A.symm
  subst el0A
  have el1A := el1A.symm
  subst el1A
  have el2I := el2I.symm
  subst el2I
  have ih := LX8_fulfilItem_go  (α := α) (F := F) (v := v) (Ln := Ln) (Φ := Φ) (V1 := V1) F
  unfold mX8_fulfilItem mX8_fulfilItem_s at h
  unfold rX8_fulfilItem rX8_fulfilItem_s
  obtain ⟨v52, hv52, h⟩ := mBN_some h
  refine LX8_rightSide hv52 R sl1A rfl rfl ?_
  refine mLet h rfl (fun x57 ex57 h => ?_)
  exact ih.1 _ _ _ _ _ _ R sl1A h (fun S1 R1 F1 => k S1 R1 F1)
def mX8_writeModulus_b0 (F : Nat) (rec : Nat → (Nat → Nat) → Nat → Int32 → Int32 → Int32 → Int32 → Int32 → Int32 → mV → Option (Unit × (Nat → Nat) × mV)) (Ln : Nat → Nat) (l0A : Nat) (l1I : Int32) (l2I : Int32) (V : mV) : Option (Unit × (Nat → Nat) × mV) :=
  (if (1000 : Int32) ≤ l2I then some ((), Ln, V) else (rec 1 Ln l0A (l1I) (l2I) ((0 : Int32)) 0 0 0 V))
def mX8_writeModulus_b1 (F : Nat) (rec : Nat → (Nat → Nat) → Nat → Int32 → Int32 → Int32 → Int32 → Int32 → Int32 → mV → Option (Unit × (Nat → Nat) × mV)) (Ln : Nat → Nat) (l0A : Nat) (l1I : Int32) (l2I : Int32) (l3I : Int32) (V : mV) : Option (Unit × (Nat → Nat) × mV) :=
  (if l2I ≤ l3I then (mLt (l2I + (1 : Int32)) fun x3 => (rec 0 Ln l0A (l1I) (x3) 0 0 0 0 V)) else (rec 2 Ln l0A (l1I) (l2I) (l3I) ((0 : Int32)) 0 0 V))
def mX8_writeModulus_b2 (F : Nat) (rec : Nat → (Nat → Nat) → Nat → Int32 → Int32 → Int32 → Int32 → Int32 → Int32 → mV → Option (Unit × (Nat → Nat) × mV)) (Ln : Nat → Nat) (l0A : Nat) (l1I : Int32) (l2I : Int32) (l3I : Int32) (l4I : Int32) (V : mV) : Option (Unit × (Nat → Nat) × mV) :=
  (if l1I = 0 then (rec 3 Ln l0A (l1I) (l2I) (l3I) (l4I) (l4I) ((1 : Int32)) V) else (rec 3 Ln l0A (l1I) (l2I) (l3I) (l4I) (l4I) (l2I) V))
def mX8_writeModulus_b3 (F : Nat) (rec : Nat → (Nat → Nat) → Nat → Int32 → Int32 → Int32 → Int32 → Int32 → Int32 → mV → Option (Unit × (Nat → Nat) × mV)) (Ln : Nat → Nat) (l0A : Nat) (l1I : Int32) (l2I : Int32) (l3I : Int32) (l4I : Int32) (s0I : Int32) (s1I : Int32) (V : mV) : Option (Unit × (Nat → Nat) × mV) :=
  (if s1I ≤ s0I then (mLt (l3I + (1 : Int32)) fun x6 => (rec 1 Ln l0A (l1I) (l2I) (x6) 0 0 0 V)) else (mBN (mX8_areMultiples F l0A ((Int32.toInt64 l2I)) ((Int32.toInt64 l3I)) ((Int32.toInt64 l4I)) V) fun v7 => (if v7 = 0 then (mLt (l4I + (1 : Int32)) fun x13 => (rec 2 Ln l0A (l1I) (l2I) (l3I) (x13) 0 0 V)) else (mBN (mX8_isNoMultiple F l0A ((Int32.toInt64 l2I)) ((Int32.toInt64 l3I)) ((Int32.toInt64 l4I)) V) fun v14 => (if v14 = 0 then (mLt (l4I + (1 : Int32)) fun x20 => (rec 2 Ln l0A (l1I) (l2I) (l3I) (x20) 0 0 V)) else (mBA (mX9_add F Ln (l0A + 2) (l2I) V) fun v21 L22 V22 => (mBA (mX9_add F L22 (l0A + 2) (l3I) V22) fun v26 L27 V27 => (mBA (mX9_addBelow F L27 (l0A + 2) (((V27.fI l0A 6) + (1 : Int32))) (l4I) V27) fun v31 L32 V32 => some ((), L32, V32)))))))))
def mX8_writeModulus_go (F : Nat) : Nat → Nat → (Nat → Nat) → Nat → Int32 → Int32 → Int32 → Int32 → Int32 → Int32 → mV → Option (Unit × (Nat → Nat) × mV)
  | 0, _, _, _, _, _, _, _, _, _, _ => none
  | k' + 1, lab, Ln, l0A, l1I, l2I, l3I, l4I, s0I, s1I, V => if lab = 0 then mX8_writeModulus_b0 F (mX8_writeModulus_go F k') Ln l0A l1I l2I V else if lab = 1 then mX8_writeModulus_b1 F (mX8_writeModulus_go F k') Ln l0A l1I l2I l3I V else if lab = 2 then mX8_writeModulus_b2 F (mX8_writeModulus_go F k') Ln l0A l1I l2I l3I l4I V else if lab = 3 then mX8_writeModulus_b3 F (mX8_writeModulus_go F k') Ln l0A l1I l2I l3I l4I s0I s1I V else none
def mX8_writeModulus_s (F : Nat) (rec : Nat → (Nat → Nat) → Nat → Int32 → Int32 → Int32 → Int32 → Int32 → Int32 → mV → Option (Unit × (Nat → Nat) × mV)) (Ln : Nat → Nat) (l0A : Nat) (V : mV) : Option (Unit × (Nat → Nat) × mV) :=
  (if (V.fI l0A 6) ≤ (1 : Int32) then (rec 0 Ln l0A ((0 : Int32)) ((2 : Int32)) 0 0 0 0 V) else (rec 0 Ln l0A ((1 : Int32)) ((2 : Int32)) 0 0 0 0 V))
def mX8_writeModulus (F : Nat) (Ln : Nat → Nat) (l0A : Nat) (V : mV) : Option (Unit × (Nat → Nat) × mV) := mX8_writeModulus_s F (mX8_writeModulus_go F F) Ln l0A V
set_option maxHeartbeats 4000000 in
set_option maxRecDepth 100000 in
theorem MX8_writeModulus_go {F : Nat} {v : Unit} {Ln1 : Nat → Nat} {V1 : mV} : ∀ k' : Nat, (∀ (l0A : Nat) (l1I : Int32) (l2I : Int32) (Ln : Nat → Nat) (V : mV), mX8_writeModulus_go F k' 0 Ln l0A l1I l2I 0 0 0 0 V = some (v, Ln1, V1) → mP Ln1 ≤ mP Ln) ∧ (∀ (l0A : Nat) (l1I : Int32) (l2I : Int32) (l3I : Int32) (Ln : Nat → Nat) (V : mV), mX8_writeModulus_go F k' 1 Ln l0A l1I l2I l3I 0 0 0 V = some (v, Ln1, V1) → mP Ln1 ≤ mP Ln) ∧ (∀ (l0A : Nat) (l1I : Int32) (l2I : Int32) (l3I : Int32) (l4I : Int32) (Ln : Nat → Nat) (V : mV), mX8_writeModulus_go F k' 2 Ln l0A l1I l2I l3I l4I 0 0 V = some (v, Ln1, V1) → mP Ln1 ≤ mP Ln) ∧ (∀ (l0A : Nat) (l1I : Int32) (l2I : Int32) (l3I : Int32) (l4I : Int32) (s0I : Int32) (s1I : Int32) (Ln : Nat → Nat) (V : mV), mX8_writeModulus_go F k' 3 Ln l0A l1I l2I l3I l4I s0I s1I V = some (v, Ln1, V1) → mP Ln1 ≤ mP Ln) := by
  intro k'
  induction k' with
  | zero => exact ⟨(fun _ _ _ _ _ h => by cases h), (fun _ _ _ _ _ _ h => by cases h), (fun _ _ _ _ _ _ _ h => by cases h), (fun _ _ _ _ _ _ _ _ _ h => by cases h)⟩
  | succ k' ihM =>
    refine ⟨?_, ?_, ?_, ?_⟩
    · intro l0A l1I l2I Ln V h
      rw [mX8_writeModulus_go, if_pos rfl] at h
      unfold mX8_writeModulus_b0 at h
      rcases mIf_some h with ⟨_, h⟩ | ⟨_, h⟩
      · cases h
        exact Nat.le_refl _
      · exact ihM.2.1 _ _ _ _ _ _ h
    · intro l0A l1I l2I l3I Ln V h
      rw [mX8_writeModulus_go, if_neg (by decide), if_pos rfl] at h
      unfold mX8_writeModulus_b1 at h
      rcases mIf_some h with ⟨_, h⟩ | ⟨_, h⟩
      · obtain ⟨_, _, h⟩ := mLt_some h
        exact ihM.1 _ _ _ _ _ h
      · exact ihM.2.2.1 _ _ _ _ _ _ _ h
    · intro l0A l1I l2I l3I l4I Ln V h
      rw [mX8_writeModulus_go, if_neg (by decide), if_neg (by decide), if_pos rfl] at h
      unfold mX8_writeModulus_b2 at h
      rcases mIf_some h with ⟨_, h⟩ | ⟨_, h⟩
      · exact ihM.2.2.2 _ _ _ _ _ _ _ _ _ h
      · exact ihM.2.2.2 _ _ _ _ _ _ _ _ _ h
    · intro l0A l1I l2I l3I l4I s0I s1I Ln V h
      rw [mX8_writeModulus_go, if_neg (by decide), if_neg (by decide), if_neg (by decide), if_pos rfl] at h
      unfold mX8_writeModulus_b3 at h
      rcases mIf_some h with ⟨_, h⟩ | ⟨_, h⟩
      · obtain ⟨_, _, h⟩ := mLt_some h
        exact ihM.2.1 _ _ _ _ _ _ h
      · obtain ⟨_, _, h⟩ := mBN_some h
        rcases mIf_some h with ⟨_, h⟩ | ⟨_, h⟩
        · obtain ⟨_, _, h⟩ := mLt_some h
          exact ihM.2.2.1 _ _ _ _ _ _ _ h
        · obtain ⟨_, _, h⟩ := mBN_some h
          rcases mIf_some h with ⟨_, h⟩ | ⟨_, h⟩
          · obtain ⟨_, _, h⟩ := mLt_some h
            exact ihM.2.2.1 _ _ _ _ _ _ _ h
          · obtain ⟨_, _, _, z1, h⟩ := mBA_some h
            refine Nat.le_trans ?_ (MX9_add z1)
            obtain ⟨_, _, _, z2, h⟩ := mBA_some h
            refine Nat.le_trans ?_ (MX9_add z2)
            obtain ⟨_, _, _, z3, h⟩ := mBA_some h
            refine Nat.le_trans ?_ (MX9_addBelow z3)
            cases h
            exact Nat.le_refl _
set_option maxHeartbeats 4000000 in
set_option maxRecDepth 100000 in
theorem MX8_writeModulus {F : Nat} {Ln Ln1 : Nat → Nat} {V V1 : mV} {v : Unit} {l0A : Nat} (h : mX8_writeModulus F Ln l0A V = some (v, Ln1, V1)) : mP Ln1 ≤ mP Ln := by
  have ihM := MX8_writeModulus_go (F := F) (v := v) (Ln1 := Ln1) (V1 := V1) F
  unfold mX8_writeModulus mX8_writeModulus_s at h
  rcases mIf_some h with ⟨_, h⟩ | ⟨_, h⟩
  · exact ihM.1 _ _ _ _ _ h
  · exact ihM.1 _ _ _ _ _ h
set_option maxHeartbeats 4000000 in
set_option maxRecDepth 100000 in
theorem LX8_writeModulus_go {α : Nat → Nat} {k0 n0 : Nat} {F : Nat} {v : Unit} {Ln1 : Nat → Nat} {V1 : mV} {Φ : (Unit → wPS → Prop)} : ∀ k' : Nat, (∀ (l0A : Nat) (l1I : Int32) (l2I : Int32) (S : wPS) (V : mV) (Ln : Nat → Nat) (c s : Nat), mRel α S Ln V → mK l0A = 3 → mX8_writeModulus_go F k' 0 Ln l0A l1I l2I 0 0 0 0 V = some (v, Ln1, V1) → c + (mP Ln - mP Ln1) / 16 ≤ k0 → s + (mP Ln - mP Ln1) ≤ n0 → (∀ S1, mRel α S1 Ln1 V1 → mFr α S S1 → Φ v S1) → rX8_writeModulus_go F k0 n0 k' 0 c s (α l0A) l1I l2I 0 0 0 0 S Φ) ∧ (∀ (l0A : Nat) (l1I : Int32) (l2I : Int32) (l3I : Int32) (S : wPS) (V : mV) (Ln : Nat → Nat) (c s : Nat), mRel α S Ln V → mK l0A = 3 → mX8_writeModulus_go F k' 1 Ln l0A l1I l2I l3I 0 0 0 V = some (v, Ln1, V1) → c + (mP Ln - mP Ln1) / 16 ≤ k0 → s + (mP Ln - mP Ln1) ≤ n0 → (∀ S1, mRel α S1 Ln1 V1 → mFr α S S1 → Φ v S1) → rX8_writeModulus_go F k0 n0 k' 1 c s (α l0A) l1I l2I l3I 0 0 0 S Φ) ∧ (∀ (l0A : Nat) (l1I : Int32) (l2I : Int32) (l3I : Int32) (l4I : Int32) (S : wPS) (V : mV) (Ln : Nat → Nat) (c s : Nat), mRel α S Ln V → mK l0A = 3 → mX8_writeModulus_go F k' 2 Ln l0A l1I l2I l3I l4I 0 0 V = some (v, Ln1, V1) → c + (mP Ln - mP Ln1) / 16 ≤ k0 → s + (mP Ln - mP Ln1) ≤ n0 → (∀ S1, mRel α S1 Ln1 V1 → mFr α S S1 → Φ v S1) → rX8_writeModulus_go F k0 n0 k' 2 c s (α l0A) l1I l2I l3I l4I 0 0 S Φ) ∧ (∀ (l0A : Nat) (l1I : Int32) (l2I : Int32) (l3I : Int32) (l4I : Int32) (s0I : Int32) (s1I : Int32) (S : wPS) (V : mV) (Ln : Nat → Nat) (c s : Nat), mRel α S Ln V → mK l0A = 3 → mX8_writeModulus_go F k' 3 Ln l0A l1I l2I l3I l4I s0I s1I V = some (v, Ln1, V1) → c + (mP Ln - mP Ln1) / 16 ≤ k0 → s + (mP Ln - mP Ln1) ≤ n0 → (∀ S1, mRel α S1 Ln1 V1 → mFr α S S1 → Φ v S1) → rX8_writeModulus_go F k0 n0 k' 3 c s (α l0A) l1I l2I l3I l4I s0I s1I S Φ) := by
  intro k'
  induction k' with
  | zero => exact ⟨(fun _ _ _ _ _ _ _ _ _ _ h _ _ _ => by cases h), (fun _ _ _ _ _ _ _ _ _ _ _ h _ _ _ => by cases h), (fun _ _ _ _ _ _ _ _ _ _ _ _ h _ _ _ => by cases h), (fun _ _ _ _ _ _ _ _ _ _ _ _ _ _ h _ _ _ => by cases h)⟩
  | succ k' ih =>
    have ihM := MX8_writeModulus_go (F := F) (v := v) (Ln1 := Ln1) (V1 := V1) k'
    refine ⟨?_, ?_, ?_, ?_⟩
    · intro l0A l1I l2I S V Ln c s R sl0A h hk hn k
      rw [mX8_writeModulus_go, if_pos rfl] at h
      rw [rX8_writeModulus_go, if_pos rfl]
      unfold mX8_writeModulus_b0 at h
      unfold rX8_writeModulus_b0
      refine mIf h Iff.rfl (fun c4 h => ?_) (fun c4 h => ?_)
      · obtain ⟨rfl, rfl, rfl⟩ := mRA3 h
        exact k _ R mFr.rf
      · exact ih.2.1 _ _ _ _ _ _ _ _ _ R sl0A h (by omega) (by omega) (fun S1 R1 F1 => k S1 R1 F1)
    · intro l0A l1I l2I l3I S V Ln c s R sl0A h hk hn k
      rw [mX8_writeModulus_go, if_neg (by decide), if_pos rfl] at h
      rw [rX8_writeModulus_go, if_neg (by decide), if_pos rfl]
      unfold mX8_writeModulus_b1 at h
      unfold rX8_writeModulus_b1
      refine mIf h Iff.rfl (fun c5 h => ?_) (fun c5 h => ?_)
      · refine mLet h rfl (fun x3 ex3 h => ?_)
        exact ih.1 _ _ _ _ _ _ _ _ R sl0A h (by omega) (by omega) (fun S1 R1 F1 => k S1 R1 F1)
      · exact ih.2.2.1 _ _ _ _ _ _ _ _ _ _ R sl0A h (by omega) (by omega) (fun S1 R1 F1 => k S1 R1 F1)
    · intro l0A l1I l2I l3I l4I S V Ln c s R sl0A h hk hn k
      rw [mX8_writeModulus_go, if_neg (by decide), if_neg (by decide), if_pos rfl] at h
      rw [rX8_writeModulus_go, if_neg (by decide), if_neg (by decide), if_pos rfl]
      unfold mX8_writeModulus_b2 at h
      unfold rX8_writeModulus_b2
      refine mIf h Iff.rfl (fun c6 h => ?_) (fun c6 h => ?_)
      · exact ih.2.2.2 _ _ _ _ _ _ _ _ _ _ _ _ R sl0A h (by omega) (by omega) (fun S1 R1 F1 => k S1 R1 F1)
      · exact ih.2.2.2 _ _ _ _ _ _ _ _ _ _ _ _ R sl0A h (by omega) (by omega) (fun S1 R1 F1 => k S1 R1 F1)
    · intro l0A l1I l2I l3I l4I s0I s1I S V Ln c s R sl0A h hk hn k
      rw [mX8_writeModulus_go, if_neg (by decide), if_neg (by decide), if_neg (by decide), if_pos rfl] at h
      rw [rX8_writeModulus_go, if_neg (by decide), if_neg (by decide), if_neg (by decide), if_pos rfl]
      unfold mX8_writeModulus_b3 at h
      unfold rX8_writeModulus_b3
      refine mIf h Iff.rfl (fun c7 h => ?_) (fun c7 h => ?_)
      · refine mLet h rfl (fun x6 ex6 h => ?_)
        exact ih.2.1 _ _ _ _ _ _ _ _ _ R sl0A h (by omega) (by omega) (fun S1 R1 F1 => k S1 R1 F1)
      · obtain ⟨v7, hv7, h⟩ := mBN_some h
        refine LX8_areMultiples hv7 R sl0A rfl rfl rfl rfl ?_
        refine mIf h Iff.rfl (fun c8 h => ?_) (fun c8 h => ?_)
        · refine mLet h rfl (fun x13 ex13 h => ?_)
          exact ih.2.2.1 _ _ _ _ _ _ _ _ _ _ R sl0A h (by omega) (by omega) (fun S1 R1 F1 => k S1 R1 F1)
        · obtain ⟨v14, hv14, h⟩ := mBN_some h
          refine LX8_isNoMultiple hv14 R sl0A rfl rfl rfl rfl ?_
          refine mIf h Iff.rfl (fun c9 h => ?_) (fun c9 h => ?_)
          · refine mLet h rfl (fun x20 ex20 h => ?_)
            exact ih.2.2.1 _ _ _ _ _ _ _ _ _ _ R sl0A h (by omega) (by omega) (fun S1 R1 F1 => k S1 R1 F1)
          · obtain ⟨v21, L22, V22, hv21, h⟩ := mBA_some h
            have mv21 : mP L22 ≤ mP Ln := MX9_add hv21
            have qv21 : mP Ln1 ≤ mP L22 := by
              obtain ⟨_, _, _, z10, h⟩ := mBA_some h
              refine Nat.le_trans ?_ (MX9_add z10)
              obtain ⟨_, _, _, z11, h⟩ := mBA_some h
              refine Nat.le_trans ?_ (MX9_addBelow z11)
              cases h
              exact Nat.le_refl _
            refine ⟨(mP Ln - mP L22) / 16, mP Ln - mP L22, by omega, by omega, ?_⟩
            refine LX9_add hv21 R (mKe2 sl0A) (mg_A (t := (l0A + 2)) R (mRe sl0A rfl) rfl) rfl (by omega) (by omega) (fun S22 R22 F22 => ?_)
            obtain ⟨v26, L27, V27, hv26, h⟩ := mBA_some h
            have mv26 : mP L27 ≤ mP L22 := MX9_add hv26
            have qv26 : mP Ln1 ≤ mP L27 := by
              obtain ⟨_, _, _, z12, h⟩ := mBA_some h
              refine Nat.le_trans ?_ (MX9_addBelow z12)
              cases h
              exact Nat.le_refl _
            refine ⟨(mP L22 - mP L27) / 16, mP L22 - mP L27, by omega, by omega, ?_⟩
            refine LX9_add hv26 R22 (mKe2 sl0A) (mg_A (t := (l0A + 2)) R22 (mRe sl0A rfl) rfl) rfl (by omega) (by omega) (fun S27 R27 F27 => ?_)
            obtain ⟨v31, L32, V32, hv31, h⟩ := mBA_some h
            have mv31 : mP L32 ≤ mP L27 := MX9_addBelow hv31
            have qv31 : mP Ln1 ≤ mP L32 := by
              cases h
              exact Nat.le_refl _
            refine ⟨(mP L27 - mP L32) / 16, mP L27 - mP L32, by omega, by omega, ?_⟩
            refine LX9_addBelow hv31 R27 (mKe2 sl0A) (mg_A (t := (l0A + 2)) R27 (mRe sl0A rfl) rfl) (by rw [show gEntry_itemCount S27 (α l0A) = V27.fI l0A 6 from (mg_I (i := l0A) R27 (mO3 sl0A) rfl 6)]) rfl (by omega) (by omega) (fun S32 R32 F32 => ?_)
            obtain ⟨rfl, rfl, rfl⟩ := mRA3 h
            exact k _ R32 (F22.tr (F27.tr F32))
set_option maxHeartbeats 4000000 in
set_option maxRecDepth 100000 in
theorem LX8_writeModulus {α : Nat → Nat} {F : Nat} {S : wPS} {Ln Ln1 : Nat → Nat} {V V1 : mV} {v : Unit} {Φ : (Unit → wPS → Prop)} {l0Ax : Nat} {l0A : Nat} {k0 n0 : Nat} (h : mX8_writeModulus F Ln l0A V = some (v, Ln1, V1)) (R : mRel α S Ln V) (sl0A : mK l0A = 3) (el0A : l0Ax = α l0A) (hk : (mP Ln - mP Ln1) / 16 ≤ k0) (hn : mP Ln - mP Ln1 ≤ n0) (k : (∀ S1, mRel α S1 Ln1 V1 → mFr α S S1 → Φ v S1)) : rX8_writeModulus F k0 n0 l0Ax S Φ := by
  have el0A := el0A.symm
  subst el0A
  have ih := LX8_writeModulus_go  (α := α) (F := F) (v := v) (k0 := k0) (n0 := n0) (Ln1 := Ln1) (Φ := Φ) (V1 := V1) F
  have ihM := MX8_writeModulus_go (F := F) (v := v) (Ln1 := Ln1) (V1 := V1) F
  unfold mX8_writeModulus mX8_writeModulus_s at h
  unfold rX8_writeModulus rX8_writeModulus_s
  refine mIf h (by rw [show gEntry_itemCount S (α l0A) = V.fI l0A 6 from (mg_I (i := l0A) R (mO3 sl0A) rfl 6)]) (fun c13 h => ?_) (fun c13 h => ?_)
  · exact ih.1 _ _ _ _ _ _ _ _ R sl0A h (by omega) (by omega) (fun S1 R1 F1 => k S1 R1 F1)
  · exact ih.1 _ _ _ _ _ _ _ _ R sl0A h (by omega) (by omega) (fun S1 R1 F1 => k S1 R1 F1)
def mX8_baseOf_b0 (F : Nat) (rec : Nat → Int32 → Int32 → Option Int32) (l0I : Int32) (l1I : Int32) : Option Int32 :=
  (if l0I ≤ l1I then some ((1 : Int32)) else (mBN (mX8_isBaseOf F (l1I) (l0I)) fun v2 => (if v2 = 0 then (mLt (l1I + (1 : Int32)) fun x8 => (rec 0 (l0I) (x8))) else some (l1I))))
def mX8_baseOf_go (F : Nat) : Nat → Nat → Int32 → Int32 → Option Int32
  | 0, _, _, _ => none
  | k' + 1, lab, l0I, l1I => if lab = 0 then mX8_baseOf_b0 F (mX8_baseOf_go F k') l0I l1I  else none
def mX8_baseOf_s (F : Nat) (rec : Nat → Int32 → Int32 → Option Int32) (l0I : Int32) : Option Int32 :=
  (rec 0 (l0I) ((2 : Int32)))
def mX8_baseOf (F : Nat) (l0I : Int32) : Option Int32 := mX8_baseOf_s F (mX8_baseOf_go F F) l0I 
set_option maxHeartbeats 4000000 in
set_option maxRecDepth 100000 in
theorem LX8_baseOf_go {F : Nat} {v : Int32} {Φ : (Int32 → wPS → Prop)} : ∀ k' : Nat, (∀ (l0I : Int32) (l1I : Int32) (S : wPS) , mX8_baseOf_go F k' 0 l0I l1I  = some v → (Φ v S) → rX8_baseOf_go F k' 0 l0I l1I S Φ) := by
  intro k'
  induction k' with
  | zero => exact (fun _ _ _ h _ => by cases h)
  | succ k' ih =>
    intro l0I l1I S h k
    rw [mX8_baseOf_go, if_pos rfl] at h
    rw [rX8_baseOf_go, if_pos rfl]
    unfold mX8_baseOf_b0 at h
    unfold rX8_baseOf_b0
    refine mIf h Iff.rfl (fun c1 h => ?_) (fun c1 h => ?_)
    · cases h
      exact k
    · obtain ⟨v2, hv2, h⟩ := mBN_some h
      refine LX8_isBaseOf hv2 rfl rfl ?_
      refine mIf h Iff.rfl (fun c2 h => ?_) (fun c2 h => ?_)
      · refine mLet h rfl (fun x8 ex8 h => ?_)
        exact ih _ _ _ h k
      · cases h
        exact k
set_option maxHeartbeats 4000000 in
set_option maxRecDepth 100000 in
theorem LX8_baseOf {F : Nat} {S : wPS} {v : Int32} {Φ : (Int32 → wPS → Prop)} {l0Ix l0I : Int32} (h : mX8_baseOf F l0I  = some v) (el0I : l0Ix = l0I) (k : (Φ v S)) : rX8_baseOf F l0Ix S Φ := by
  have el0I := el0I.symm
  subst el0I
  have ih := LX8_baseOf_go  (F := F) (v := v) (Φ := Φ) F
  unfold mX8_baseOf mX8_baseOf_s at h
  unfold rX8_baseOf rX8_baseOf_s
  exact ih _ _ _ h k
def mX8_judgePrime (F : Nat) (Ln : Nat → Nat) (l1A : Nat) (l2A : Nat) (V : mV) : Option Int32 :=
  (mBN (mX8_readPrime F 48 Ln l2A ((0 : Int32)) ((0 : Int32)) ((0 : Int32)) V) fun v1 => (if v1 = (V.fI l2A 1) then (mBN (mX9_at F Ln l2A ((0 : Int32)) V) fun v7 => (if v7 = (V.fI l1A 8) then (mBN (mX8_readPrime F 48 Ln l2A ((0 : Int32)) ((0 : Int32)) ((1 : Int32)) V) fun v13 => (if v13 = (V.fI l2A 1) then some ((0 : Int32)) else some ((3 : Int32)))) else some ((2 : Int32)))) else some ((1 : Int32))))
set_option maxHeartbeats 4000000 in
set_option maxRecDepth 100000 in
theorem LX8_judgePrime {α : Nat → Nat} {F : Nat} {S : wPS} {Ln : Nat → Nat} {V : mV} {v : Int32} {Φ : (Int32 → wPS → Prop)} {l0Ax : Nat} {l1Ax : Nat} {l1A : Nat} {l2Ax : Nat} {l2A : Nat} (h : mX8_judgePrime F Ln l1A l2A V = some v) (R : mRel α S Ln V) (sl1A : mK l1A = 3) (sl2A : mK l2A = 9) (el0A : l0Ax = α 6) (el1A : l1Ax = α l1A) (el2A : l2Ax = α l2A) (k : (Φ v S)) : rX8_judgePrime F l0Ax l1Ax l2Ax S Φ := by
  have el0A := el0A.symm
  subst el0A
  have el1A := el1A.symm
  subst el1A
  have el2A := el2A.symm
  subst el2A
  unfold mX8_judgePrime at h
  unfold rX8_judgePrime
  obtain ⟨v1, hv1, h⟩ := mBN_some h
  refine LX8_readPrime hv1 R sl2A rfl rfl rfl rfl ?_
  refine mIf h (by rw [show gRow_count S (α l2A) = V.fI l2A 1 from (mg_I (i := l2A) R (mO9 sl2A) rfl 1)]) (fun c1 h => ?_) (fun c1 h => ?_)
  · obtain ⟨v7, hv7, h⟩ := mBN_some h
    refine LX9_at hv7 R sl2A rfl rfl ?_
    refine mIf h (by rw [show gEntry_boundNow S (α l1A) = V.fI l1A 8 from (mg_I (i := l1A) R (mO3 sl1A) rfl 8)]) (fun c2 h => ?_) (fun c2 h => ?_)
    · obtain ⟨v13, hv13, h⟩ := mBN_some h
      refine LX8_readPrime hv13 R sl2A rfl rfl rfl rfl ?_
      refine mIf h (by rw [show gRow_count S (α l2A) = V.fI l2A 1 from (mg_I (i := l2A) R (mO9 sl2A) rfl 1)]) (fun c3 h => ?_) (fun c3 h => ?_)
      · cases h
        exact k
      · cases h
        exact k
    · cases h
      exact k
  · cases h
    exact k
def mX8_rootsOfPart (F : Nat) (l1I : Int32) (l2I : Int32) (V : mV) : Option Int32 :=
  (mBN (mX8_changesAt F (l1I) (l2I) V) fun v1 => (mBN (mX8_changesAt F (l1I) ((l2I + (1 : Int32))) V) fun v6 => some ((v1 - v6))))
set_option maxHeartbeats 4000000 in
set_option maxRecDepth 100000 in
theorem LX8_rootsOfPart {α : Nat → Nat} {F : Nat} {S : wPS} {Ln : Nat → Nat} {V : mV} {v : Int32} {Φ : (Int32 → wPS → Prop)} {l0Ax : Nat} {l1Ix l1I : Int32} {l2Ix l2I : Int32} (h : mX8_rootsOfPart F l1I l2I V = some v) (R : mRel α S Ln V) (el0A : l0Ax = α 6) (el1I : l1Ix = l1I) (el2I : l2Ix = l2I) (k : (Φ v S)) : rX8_rootsOfPart F l0Ax l1Ix l2Ix S Φ := by
  have el0A := el0A.symm
  subst el0A
  have el1I := el1I.symm
  subst el1I
  have el2I := el2I.symm
  subst el2I
  unfold mX8_rootsOfPart at h
  unfold rX8_rootsOfPart
  obtain ⟨v1, hv1, h⟩ := mBN_some h
  refine LX8_changesAt hv1 R rfl rfl rfl ?_
  obtain ⟨v6, hv6, h⟩ := mBN_some h
  refine LX8_changesAt hv6 R rfl rfl rfl ?_
  cases h
  exact k
def mX8_addRest_b0 (F : Nat) (rec : Nat → Int32 → Int32 → mV → Option (Int32 × mV)) (l3I : Int32) (l4I : Int32) (V : mV) : Option (Int32 × mV) :=
  (if (4 : Int32) ≤ l4I then (if (V.fI 6 8) < 0 ∨ 5 ≤ ((V.fI 6 8)).toNatClampNeg then none else (mLt (mI V 67 ((V.fI 6 8)) (l3I)) fun V3 => some ((1 : Int32), V3))) else (if (V.fI 6 8) < 0 ∨ 5 ≤ ((V.fI 6 8)).toNatClampNeg then none else (if l4I < 0 ∨ 4 ≤ (l4I).toNatClampNeg then none else (if l4I < 0 ∨ 4 ≤ (l4I).toNatClampNeg then none else (mLt (mJ V (62 + ((V.fI 6 8)).toNatClampNeg) (l4I) ((-(V.rJ 68 (l4I).toNatClampNeg)))) fun V8 => (mLt (l4I + (1 : Int32)) fun x9 => (rec 0 (l3I) (x9) V8)))))))
def mX8_addRest_go (F : Nat) : Nat → Nat → Int32 → Int32 → mV → Option (Int32 × mV)
  | 0, _, _, _, _ => none
  | k' + 1, lab, l3I, l4I, V => if lab = 0 then mX8_addRest_b0 F (mX8_addRest_go F k') l3I l4I V else none
def mX8_addRest_s (F : Nat) (rec : Nat → Int32 → Int32 → mV → Option (Int32 × mV)) (V : mV) : Option (Int32 × mV) :=
  (if ((V.fI 6 8) - (1 : Int32)) < 0 ∨ 5 ≤ (((V.fI 6 8) - (1 : Int32))).toNatClampNeg then none else (if ((V.fI 6 8) - (1 : Int32)) < 0 ∨ 5 ≤ (((V.fI 6 8) - (1 : Int32))).toNatClampNeg then none else (mLt (V.rI 67 (((V.fI 6 8) - (1 : Int32))).toNatClampNeg) fun x13 => (if ((V.fI 6 8) - (2 : Int32)) < 0 ∨ 5 ≤ (((V.fI 6 8) - (2 : Int32))).toNatClampNeg then none else (if ((V.fI 6 8) - (2 : Int32)) < 0 ∨ 5 ≤ (((V.fI 6 8) - (2 : Int32))).toNatClampNeg then none else (mBW (mX8_divide F (62 + (((V.fI 6 8) - (2 : Int32))).toNatClampNeg) (62 + (((V.fI 6 8) - (1 : Int32))).toNatClampNeg) ((V.rI 67 (((V.fI 6 8) - (2 : Int32))).toNatClampNeg)) (x13) V) fun v17 V18 => (mBN (mX8_degreeOf F 68 V18) fun v22 => (if 0 ≤ v22 then (rec 0 (v22) ((0 : Int32)) V18) else some ((0 : Int32), V18)))))))))
def mX8_addRest (F : Nat) (V : mV) : Option (Int32 × mV) := mX8_addRest_s F (mX8_addRest_go F F) V
set_option maxHeartbeats 4000000 in
set_option maxRecDepth 100000 in
theorem LX8_addRest_go {α : Nat → Nat} {F : Nat} {Ln : Nat → Nat} {v : Int32} {V1 : mV} {Φ : (Int32 → wPS → Prop)} : ∀ k' : Nat, (∀ (l3I : Int32) (l4I : Int32) (S : wPS) (V : mV) , mRel α S Ln V → mX8_addRest_go F k' 0 l3I l4I V = some (v, V1) → (∀ S1, mRel α S1 Ln V1 → mFr α S S1 → Φ v S1) → rX8_addRest_go F k' 0 (α 6) l3I l4I S Φ) := by
  intro k'
  induction k' with
  | zero => exact (fun _ _ _ _ _ h _ => by cases h)
  | succ k' ih =>
    intro l3I l4I S V R h k
    rw [mX8_addRest_go, if_pos rfl] at h
    rw [rX8_addRest_go, if_pos rfl]
    unfold mX8_addRest_b0 at h
    unfold rX8_addRest_b0
    refine mIf h Iff.rfl (fun c1 h => ?_) (fun c1 h => ?_)
    · refine mGd h (by rw [show S.len (wkAd (gNumbers_degrees S (α 6))) = 5 from (mg_len (i := 67) R (mA13 rfl) (mg_A (t := 67) R rfl rfl)), show gNumbers_chainCount S (α 6) = V.fI 6 8 from (mg_I (i := 6) R (by decide) rfl 8)]) (fun c2 h => ?_)
      obtain ⟨V3, eV3, h⟩ := mLt_some h
      refine mU_I eV3 R (mA13 rfl) (mg_A (t := 67) R rfl rfl) (by rw [show gNumbers_chainCount S (α 6) = V.fI 6 8 from (mg_I (i := 6) R (by decide) rfl 8)]) rfl (fun S3 R3 F3 => ?_)
      obtain ⟨rfl, rfl⟩ := mRW h
      exact k _ R3 F3
    · refine mGd h (by rw [show S.len (wkAd (gNumbers_chain S (α 6))) = 5 from (mg_len (i := 61) R (mAr (by decide)) (mg_A (t := 61) R rfl rfl)), show gNumbers_chainCount S (α 6) = V.fI 6 8 from (mg_I (i := 6) R (by decide) rfl 8)]) (fun c3 h => ?_)
      refine mGd h (by rw [show S.len (wkAd (gNumbers_left S (α 6))) = 4 from (mg_len (i := 68) R (mA14 rfl) (mg_A (t := 68) R rfl rfl))]) (fun c4 h => ?_)
      refine mGd h (by rw [show S.len (wkAd (S.rA (wkAd (gNumbers_chain S (α 6))) ((gNumbers_chainCount S (α 6))).toNatClampNeg)) = 4 from ((mg_len R (mA14 (mKA61 (Nat.lt_of_not_le (fun z => c3 (Or.inr z))))) (mg_RA R (mRA61 (Nat.lt_of_not_le (fun z => c3 (Or.inr z)))) (mg_A (t := 61) R rfl rfl) (by rw [show gNumbers_chainCount S (α 6) = V.fI 6 8 from (mg_I (i := 6) R (by decide) rfl 8)]))).trans (mLA61 (Nat.lt_of_not_le (fun z => c3 (Or.inr z)))))]) (fun c5 h => ?_)
      obtain ⟨V8, eV8, h⟩ := mLt_some h
      refine mU_J eV8 R (mA14 (mKA61 (Nat.lt_of_not_le (fun z => c3 (Or.inr z))))) (mg_RA R (mRA61 (Nat.lt_of_not_le (fun z => c3 (Or.inr z)))) (mg_A (t := 61) R rfl rfl) (by rw [show gNumbers_chainCount S (α 6) = V.fI 6 8 from (mg_I (i := 6) R (by decide) rfl 8)])) rfl (by rw [show S.rJ (wkAd (gNumbers_left S (α 6))) (l4I).toNatClampNeg = V.rJ 68 (l4I).toNatClampNeg from (mg_rJ (i := 68) R (mA14 rfl) (mg_A (t := 68) R rfl rfl) rfl)]) (fun S8 R8 F8 => ?_)
      refine mLet h rfl (fun x9 ex9 h => ?_)
      exact ih _ _ _ _ R8 h (fun S1 R1 F1 => k S1 R1 (F8.tr F1))
set_option maxHeartbeats 4000000 in
set_option maxRecDepth 100000 in
theorem LX8_addRest {α : Nat → Nat} {F : Nat} {S : wPS} {Ln : Nat → Nat} {V V1 : mV} {v : Int32} {Φ : (Int32 → wPS → Prop)} {l0Ax : Nat} (h : mX8_addRest F V = some (v, V1)) (R : mRel α S Ln V) (el0A : l0Ax = α 6) (k : (∀ S1, mRel α S1 Ln V1 → mFr α S S1 → Φ v S1)) : rX8_addRest F l0Ax S Φ := by
  have el0A := el0A.symm
  subst el0A
  have ih := LX8_addRest_go  (α := α) (F := F) (v := v) (Ln := Ln) (Φ := Φ) (V1 := V1) F
  unfold mX8_addRest mX8_addRest_s at h
  unfold rX8_addRest rX8_addRest_s
  refine mGd h (by rw [show S.len (wkAd (gNumbers_chain S (α 6))) = 5 from (mg_len (i := 61) R (mAr (by decide)) (mg_A (t := 61) R rfl rfl)), show gNumbers_chainCount S (α 6) = V.fI 6 8 from (mg_I (i := 6) R (by decide) rfl 8)]) (fun c6 h => ?_)
  refine mGd h (by rw [show S.len (wkAd (gNumbers_degrees S (α 6))) = 5 from (mg_len (i := 67) R (mA13 rfl) (mg_A (t := 67) R rfl rfl)), show gNumbers_chainCount S (α 6) = V.fI 6 8 from (mg_I (i := 6) R (by decide) rfl 8)]) (fun c7 h => ?_)
  refine mLet h (by rw [show S.rI (wkAd (gNumbers_degrees S (α 6))) (((gNumbers_chainCount S (α 6)) - (1 : Int32))).toNatClampNeg = V.rI 67 (((V.fI 6 8) - (1 : Int32))).toNatClampNeg from (mg_rI (i := 67) R (mA13 rfl) (mg_A (t := 67) R rfl rfl) (by rw [show gNumbers_chainCount S (α 6) = V.fI 6 8 from (mg_I (i := 6) R (by decide) rfl 8)]))]) (fun x13 ex13 h => ?_)
  refine mGd h (by rw [show S.len (wkAd (gNumbers_chain S (α 6))) = 5 from (mg_len (i := 61) R (mAr (by decide)) (mg_A (t := 61) R rfl rfl)), show gNumbers_chainCount S (α 6) = V.fI 6 8 from (mg_I (i := 6) R (by decide) rfl 8)]) (fun c8 h => ?_)
  refine mGd h (by rw [show S.len (wkAd (gNumbers_degrees S (α 6))) = 5 from (mg_len (i := 67) R (mA13 rfl) (mg_A (t := 67) R rfl rfl)), show gNumbers_chainCount S (α 6) = V.fI 6 8 from (mg_I (i := 6) R (by decide) rfl 8)]) (fun c9 h => ?_)
  obtain ⟨v17, V18, hv17, h⟩ := mBW_some h
  refine LX8_divide hv17 R (mKA61 (Nat.lt_of_not_le (fun z => c9 (Or.inr z)))) (mKA61 (Nat.lt_of_not_le (fun z => c7 (Or.inr z)))) rfl (mg_RA R (mRA61 (Nat.lt_of_not_le (fun z => c9 (Or.inr z)))) (mg_A (t := 61) R rfl rfl) (by rw [show gNumbers_chainCount S (α 6) = V.fI 6 8 from (mg_I (i := 6) R (by decide) rfl 8)])) (mg_RA R (mRA61 (Nat.lt_of_not_le (fun z => c7 (Or.inr z)))) (mg_A (t := 61) R rfl rfl) (by rw [show gNumbers_chainCount S (α 6) = V.fI 6 8 from (mg_I (i := 6) R (by decide) rfl 8)])) (by rw [show S.rI (wkAd (gNumbers_degrees S (α 6))) (((gNumbers_chainCount S (α 6)) - (2 : Int32))).toNatClampNeg = V.rI 67 (((V.fI 6 8) - (2 : Int32))).toNatClampNeg from (mg_rI (i := 67) R (mA13 rfl) (mg_A (t := 67) R rfl rfl) (by rw [show gNumbers_chainCount S (α 6) = V.fI 6 8 from (mg_I (i := 6) R (by decide) rfl 8)]))]) rfl (fun S18 R18 F18 => ?_)
  obtain ⟨v22, hv22, h⟩ := mBN_some h
  refine LX8_degreeOf hv22 R18 rfl (mg_A (t := 68) R18 rfl rfl) ?_
  refine mIf h Iff.rfl (fun c10 h => ?_) (fun c10 h => ?_)
  · exact ih _ _ _ _ R18 h (fun S1 R1 F1 => k S1 R1 (F18.tr F1))
  · obtain ⟨rfl, rfl⟩ := mRW h
    exact k _ R18 F18
end
