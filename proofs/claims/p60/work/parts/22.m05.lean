/-! LIFTED BY PROGRAM (lift.py): X8_movePoint, X8_removeBasis, X8_areMultiples, X8_isNoMultiple, X8_leastDivisor, X8_withoutDivisor, X8_degreeOf, X8_senseAt, X8_signInRow, X9_clear, X9_at, X9_set. -/
section
def mX8_movePoint_b0 (F : Nat) (rec : Nat → Int32 → Int64 → Int32 → mV → Option (Unit × mV)) (l1I : Int32) (l2J : Int64) (l4I : Int32) (V : mV) : Option (Unit × mV) :=
  (if (4 : Int32) ≤ l4I then some ((), V) else (if l4I < 0 ∨ 4 ≤ (l4I).toNatClampNeg then none else (if l1I < 0 ∨ 4 ≤ (l1I).toNatClampNeg then none else (if l4I < 0 ∨ 4 ≤ (l4I).toNatClampNeg then none else (if l4I < 0 ∨ 4 ≤ (l4I).toNatClampNeg then none else (mLt (mJ V 54 (l4I) (((V.rJ 54 (l4I).toNatClampNeg) + (l2J * (V.rJ (56 + (l1I).toNatClampNeg) (l4I).toNatClampNeg))))) fun V7 => (mLt (l4I + (1 : Int32)) fun x8 => (rec 0 (l1I) (l2J) (x8) V7))))))))
def mX8_movePoint_go (F : Nat) : Nat → Nat → Int32 → Int64 → Int32 → mV → Option (Unit × mV)
  | 0, _, _, _, _, _ => none
  | k' + 1, lab, l1I, l2J, l4I, V => if lab = 0 then mX8_movePoint_b0 F (mX8_movePoint_go F k') l1I l2J l4I V else none
def mX8_movePoint_s (F : Nat) (rec : Nat → Int32 → Int64 → Int32 → mV → Option (Unit × mV)) (l1I : Int32) (l2J : Int64) (V : mV) : Option (Unit × mV) :=
  (rec 0 (l1I) (l2J) ((0 : Int32)) V)
def mX8_movePoint (F : Nat) (l1I : Int32) (l2J : Int64) (V : mV) : Option (Unit × mV) := mX8_movePoint_s F (mX8_movePoint_go F F) l1I l2J V
set_option maxHeartbeats 4000000 in
set_option maxRecDepth 100000 in
theorem LX8_movePoint_go {α : Nat → Nat} {F : Nat} {Ln : Nat → Nat} {v : Unit} {V1 : mV} {Φ : (Unit → wPS → Prop)} : ∀ k' : Nat, (∀ (l1I : Int32) (l2J : Int64) (l4I : Int32) (S : wPS) (V : mV) , mRel α S Ln V → mX8_movePoint_go F k' 0 l1I l2J l4I V = some (v, V1) → (∀ S1, mRel α S1 Ln V1 → mFr α S S1 → Φ v S1) → rX8_movePoint_go F k' 0 (α 6) l1I l2J l4I S Φ) := by
  intro k'
  induction k' with
  | zero => exact (fun _ _ _ _ _ _ h _ => by cases h)
  | succ k' ih =>
    intro l1I l2J l4I S V R h k
    rw [mX8_movePoint_go, if_pos rfl] at h
    rw [rX8_movePoint_go, if_pos rfl]
    unfold mX8_movePoint_b0 at h
    unfold rX8_movePoint_b0
    refine mIf h Iff.rfl (fun c1 h => ?_) (fun c1 h => ?_)
    · obtain ⟨rfl, rfl⟩ := mRW h
      exact k _ R mFr.rf
    · refine mGd h (by rw [show S.len (wkAd (gNumbers_point S (α 6))) = 4 from (mg_len (i := 54) R (mA14 rfl) (mg_A (t := 54) R rfl rfl))]) (fun c2 h => ?_)
      refine mGd h (by rw [show S.len (wkAd (gNumbers_basis S (α 6))) = 4 from (mg_len (i := 55) R (mAr (by decide)) (mg_A (t := 55) R rfl rfl))]) (fun c3 h => ?_)
      refine mGd h (by rw [show S.len (wkAd (S.rA (wkAd (gNumbers_basis S (α 6))) (l1I).toNatClampNeg)) = 4 from ((mg_len R (mA14 (mKA55 (Nat.lt_of_not_le (fun z => c3 (Or.inr z))))) (mg_RA R (mRA55 (Nat.lt_of_not_le (fun z => c3 (Or.inr z)))) (mg_A (t := 55) R rfl rfl) rfl)).trans (mLA55 (Nat.lt_of_not_le (fun z => c3 (Or.inr z)))))]) (fun c4 h => ?_)
      refine mGd h (by rw [show S.len (wkAd (gNumbers_point S (α 6))) = 4 from (mg_len (i := 54) R (mA14 rfl) (mg_A (t := 54) R rfl rfl))]) (fun c5 h => ?_)
      obtain ⟨V7, eV7, h⟩ := mLt_some h
      refine mU_J eV7 R (mA14 rfl) (mg_A (t := 54) R rfl rfl) rfl (by rw [show S.rJ (wkAd (S.rA (wkAd (gNumbers_basis S (α 6))) (l1I).toNatClampNeg)) (l4I).toNatClampNeg = V.rJ (56 + (l1I).toNatClampNeg) (l4I).toNatClampNeg from (mg_rJ (i := (56 + (l1I).toNatClampNeg)) R (mA14 (mKA55 (Nat.lt_of_not_le (fun z => c3 (Or.inr z))))) (mg_RA R (mRA55 (Nat.lt_of_not_le (fun z => c3 (Or.inr z)))) (mg_A (t := 55) R rfl rfl) rfl) rfl), show S.rJ (wkAd (gNumbers_point S (α 6))) (l4I).toNatClampNeg = V.rJ 54 (l4I).toNatClampNeg from (mg_rJ (i := 54) R (mA14 rfl) (mg_A (t := 54) R rfl rfl) rfl)]) (fun S7 R7 F7 => ?_)
      refine mLet h rfl (fun x8 ex8 h => ?_)
      exact ih _ _ _ _ _ R7 h (fun S1 R1 F1 => k S1 R1 (F7.tr F1))
set_option maxHeartbeats 4000000 in
set_option maxRecDepth 100000 in
theorem LX8_movePoint {α : Nat → Nat} {F : Nat} {S : wPS} {Ln : Nat → Nat} {V V1 : mV} {v : Unit} {Φ : (Unit → wPS → Prop)} {l0Ax : Nat} {l1Ix l1I : Int32} {l2Jx l2J : Int64} (h : mX8_movePoint F l1I l2J V = some (v, V1)) (R : mRel α S Ln V) (el0A : l0Ax = α 6) (el1I : l1Ix = l1I) (el2J : l2Jx = l2J) (k : (∀ S1, mRel α S1 Ln V1 → mFr α S S1 → Φ v S1)) : rX8_movePoint F l0Ax l1Ix l2Jx S Φ := by
  have el0A := el0A.symm
  subst el0A
  have el1I := el1I.symm
  subst el1I
  have el2J := el2J.symm
  subst el2J
  have ih := LX8_movePoint_go  (α := α) (F := F) (v := v) (Ln := Ln) (Φ := Φ) (V1 := V1) F
  unfold mX8_movePoint mX8_movePoint_s at h
  unfold rX8_movePoint rX8_movePoint_s
  exact ih _ _ _ _ _ R h (fun S1 R1 F1 => k S1 R1 F1)
def mX8_removeBasis_b0 (F : Nat) (rec : Nat → Int32 → Int32 → mV → Option (Unit × mV)) (l1I : Int32) (l2I : Int32) (V : mV) : Option (Unit × mV) :=
  (if (4 : Int32) ≤ l2I then some ((), V) else (if l1I < 0 ∨ 4 ≤ (l1I).toNatClampNeg then none else (if (V.fI 6 3) < 0 ∨ 4 ≤ ((V.fI 6 3)).toNatClampNeg then none else (if l2I < 0 ∨ 4 ≤ (l2I).toNatClampNeg then none else (if l2I < 0 ∨ 4 ≤ (l2I).toNatClampNeg then none else (mLt (mJ V (56 + (l1I).toNatClampNeg) (l2I) ((V.rJ (56 + ((V.fI 6 3)).toNatClampNeg) (l2I).toNatClampNeg))) fun V8 => (mLt (l2I + (1 : Int32)) fun x9 => (rec 0 (l1I) (x9) V8))))))))
def mX8_removeBasis_go (F : Nat) : Nat → Nat → Int32 → Int32 → mV → Option (Unit × mV)
  | 0, _, _, _, _ => none
  | k' + 1, lab, l1I, l2I, V => if lab = 0 then mX8_removeBasis_b0 F (mX8_removeBasis_go F k') l1I l2I V else none
def mX8_removeBasis_s (F : Nat) (rec : Nat → Int32 → Int32 → mV → Option (Unit × mV)) (l1I : Int32) (V : mV) : Option (Unit × mV) :=
  (mLt (mF V 6 3 (((V.fI 6 3) - (1 : Int32)))) fun V10 => (rec 0 (l1I) ((0 : Int32)) V10))
def mX8_removeBasis (F : Nat) (l1I : Int32) (V : mV) : Option (Unit × mV) := mX8_removeBasis_s F (mX8_removeBasis_go F F) l1I V
set_option maxHeartbeats 4000000 in
set_option maxRecDepth 100000 in
theorem LX8_removeBasis_go {α : Nat → Nat} {F : Nat} {Ln : Nat → Nat} {v : Unit} {V1 : mV} {Φ : (Unit → wPS → Prop)} : ∀ k' : Nat, (∀ (l1I : Int32) (l2I : Int32) (S : wPS) (V : mV) , mRel α S Ln V → mX8_removeBasis_go F k' 0 l1I l2I V = some (v, V1) → (∀ S1, mRel α S1 Ln V1 → mFr α S S1 → Φ v S1) → rX8_removeBasis_go F k' 0 (α 6) l1I l2I S Φ) := by
  intro k'
  induction k' with
  | zero => exact (fun _ _ _ _ _ h _ => by cases h)
  | succ k' ih =>
    intro l1I l2I S V R h k
    rw [mX8_removeBasis_go, if_pos rfl] at h
    rw [rX8_removeBasis_go, if_pos rfl]
    unfold mX8_removeBasis_b0 at h
    unfold rX8_removeBasis_b0
    refine mIf h Iff.rfl (fun c1 h => ?_) (fun c1 h => ?_)
    · obtain ⟨rfl, rfl⟩ := mRW h
      exact k _ R mFr.rf
    · refine mGd h (by rw [show S.len (wkAd (gNumbers_basis S (α 6))) = 4 from (mg_len (i := 55) R (mAr (by decide)) (mg_A (t := 55) R rfl rfl))]) (fun c2 h => ?_)
      refine mGd h (by rw [show S.len (wkAd (gNumbers_basis S (α 6))) = 4 from (mg_len (i := 55) R (mAr (by decide)) (mg_A (t := 55) R rfl rfl)), show gNumbers_basisCount S (α 6) = V.fI 6 3 from (mg_I (i := 6) R (by decide) rfl 3)]) (fun c3 h => ?_)
      refine mGd h (by rw [show S.len (wkAd (S.rA (wkAd (gNumbers_basis S (α 6))) ((gNumbers_basisCount S (α 6))).toNatClampNeg)) = 4 from ((mg_len R (mA14 (mKA55 (Nat.lt_of_not_le (fun z => c3 (Or.inr z))))) (mg_RA R (mRA55 (Nat.lt_of_not_le (fun z => c3 (Or.inr z)))) (mg_A (t := 55) R rfl rfl) (by rw [show gNumbers_basisCount S (α 6) = V.fI 6 3 from (mg_I (i := 6) R (by decide) rfl 3)]))).trans (mLA55 (Nat.lt_of_not_le (fun z => c3 (Or.inr z)))))]) (fun c4 h => ?_)
      refine mGd h (by rw [show S.len (wkAd (S.rA (wkAd (gNumbers_basis S (α 6))) (l1I).toNatClampNeg)) = 4 from ((mg_len R (mA14 (mKA55 (Nat.lt_of_not_le (fun z => c2 (Or.inr z))))) (mg_RA R (mRA55 (Nat.lt_of_not_le (fun z => c2 (Or.inr z)))) (mg_A (t := 55) R rfl rfl) rfl)).trans (mLA55 (Nat.lt_of_not_le (fun z => c2 (Or.inr z)))))]) (fun c5 h => ?_)
      obtain ⟨V8, eV8, h⟩ := mLt_some h
      refine mU_J eV8 R (mA14 (mKA55 (Nat.lt_of_not_le (fun z => c2 (Or.inr z))))) (mg_RA R (mRA55 (Nat.lt_of_not_le (fun z => c2 (Or.inr z)))) (mg_A (t := 55) R rfl rfl) rfl) rfl (by rw [show S.rJ (wkAd (S.rA (wkAd (gNumbers_basis S (α 6))) ((gNumbers_basisCount S (α 6))).toNatClampNeg)) (l2I).toNatClampNeg = V.rJ (56 + ((V.fI 6 3)).toNatClampNeg) (l2I).toNatClampNeg from (mg_rJ (i := (56 + ((V.fI 6 3)).toNatClampNeg)) R (mA14 (mKA55 (Nat.lt_of_not_le (fun z => c3 (Or.inr z))))) (mg_RA R (mRA55 (Nat.lt_of_not_le (fun z => c3 (Or.inr z)))) (mg_A (t := 55) R rfl rfl) (by rw [show gNumbers_basisCount S (α 6) = V.fI 6 3 from (mg_I (i := 6) R (by decide) rfl 3)])) rfl)]) (fun S8 R8 F8 => ?_)
      refine mLet h rfl (fun x9 ex9 h => ?_)
      exact ih _ _ _ _ R8 h (fun S1 R1 F1 => k S1 R1 (F8.tr F1))
set_option maxHeartbeats 4000000 in
set_option maxRecDepth 100000 in
theorem LX8_removeBasis {α : Nat → Nat} {F : Nat} {S : wPS} {Ln : Nat → Nat} {V V1 : mV} {v : Unit} {Φ : (Unit → wPS → Prop)} {l0Ax : Nat} {l1Ix l1I : Int32} (h : mX8_removeBasis F l1I V = some (v, V1)) (R : mRel α S Ln V) (el0A : l0Ax = α 6) (el1I : l1Ix = l1I) (k : (∀ S1, mRel α S1 Ln V1 → mFr α S S1 → Φ v S1)) : rX8_removeBasis F l0Ax l1Ix S Φ := by
  have el0A := el0A.symm
  subst el0A
  have el1I := el1I.symm
  subst el1I
  have ih := LX8_removeBasis_go  (α := α) (F := F) (v := v) (Ln := Ln) (Φ := Φ) (V1 := V1) F
  unfold mX8_removeBasis mX8_removeBasis_s at h
  unfold rX8_removeBasis rX8_removeBasis_s
  obtain ⟨V10, eV10, h⟩ := mLt_some h
  refine mU_F eV10 R (by decide) rfl (by rw [show gNumbers_basisCount S (α 6) = V.fI 6 3 from (mg_I (i := 6) R (by decide) rfl 3)]) (fun S10 R10 F10 => ?_)
  exact ih _ _ _ _ R10 h (fun S1 R1 F1 => k S1 R1 (F10.tr F1))
def mX8_areMultiples_b0 (F : Nat) (rec : Nat → Nat → Int64 → Int64 → Int64 → Int32 → mV → Option Int32) (l0A : Nat) (l1J : Int64) (l3J : Int64) (l5J : Int64) (l7I : Int32) (V : mV) : Option Int32 :=
  (if (V.fI l0A 1) ≤ l7I then some ((1 : Int32)) else (mBN (mX3_at F l0A ((0 : Int32)) (l7I) V) fun v2 => (mBN (mX3_at F l0A ((1 : Int32)) (l7I) V) fun v7 => (mLt (((Int32.toInt64 v2) * l3J) + ((Int32.toInt64 v7) * l5J)) fun x12 => (if (lg_cmp l1J (1 : Int64)) < 0 then some ((0 : Int32)) else (if l1J = 0 then none else (if (lg_cmp (x12 - x12 / l1J * l1J) (0 : Int64)) = 0 then (mLt (l7I + (1 : Int32)) fun x16 => (rec 0 l0A (l1J) (l3J) (l5J) (x16) V)) else some ((0 : Int32)))))))))
def mX8_areMultiples_go (F : Nat) : Nat → Nat → Nat → Int64 → Int64 → Int64 → Int32 → mV → Option Int32
  | 0, _, _, _, _, _, _, _ => none
  | k' + 1, lab, l0A, l1J, l3J, l5J, l7I, V => if lab = 0 then mX8_areMultiples_b0 F (mX8_areMultiples_go F k') l0A l1J l3J l5J l7I V else none
def mX8_areMultiples_s (F : Nat) (rec : Nat → Nat → Int64 → Int64 → Int64 → Int32 → mV → Option Int32) (l0A : Nat) (l1J : Int64) (l3J : Int64) (l5J : Int64) (V : mV) : Option Int32 :=
  (rec 0 l0A (l1J) (l3J) (l5J) ((0 : Int32)) V)
def mX8_areMultiples (F : Nat) (l0A : Nat) (l1J : Int64) (l3J : Int64) (l5J : Int64) (V : mV) : Option Int32 := mX8_areMultiples_s F (mX8_areMultiples_go F F) l0A l1J l3J l5J V
set_option maxHeartbeats 4000000 in
set_option maxRecDepth 100000 in
theorem LX8_areMultiples_go {α : Nat → Nat} {F : Nat} {Ln : Nat → Nat} {v : Int32} {Φ : (Int32 → wPS → Prop)} : ∀ k' : Nat, (∀ (l0A : Nat) (l1J : Int64) (l3J : Int64) (l5J : Int64) (l7I : Int32) (S : wPS) (V : mV) , mRel α S Ln V → mK l0A = 3 → mX8_areMultiples_go F k' 0 l0A l1J l3J l5J l7I V = some v → (Φ v S) → rX8_areMultiples_go F k' 0 (α l0A) l1J l3J l5J l7I S Φ) := by
  intro k'
  induction k' with
  | zero => exact (fun _ _ _ _ _ _ _ _ _ h _ => by cases h)
  | succ k' ih =>
    intro l0A l1J l3J l5J l7I S V R sl0A h k
    rw [mX8_areMultiples_go, if_pos rfl] at h
    rw [rX8_areMultiples_go, if_pos rfl]
    unfold mX8_areMultiples_b0 at h
    unfold rX8_areMultiples_b0
    refine mIf h (by rw [show gEntry_size S (α l0A) = V.fI l0A 1 from (mg_I (i := l0A) R (mO3 sl0A) rfl 1)]) (fun c1 h => ?_) (fun c1 h => ?_)
    · cases h
      exact k
    · obtain ⟨v2, hv2, h⟩ := mBN_some h
      refine LX3_at hv2 R sl0A rfl rfl rfl ?_
      obtain ⟨v7, hv7, h⟩ := mBN_some h
      refine LX3_at hv7 R sl0A rfl rfl rfl ?_
      refine mLet h rfl (fun x12 ex12 h => ?_)
      refine mIf h Iff.rfl (fun c2 h => ?_) (fun c2 h => ?_)
      · cases h
        exact k
      · refine mGd h Iff.rfl (fun c3 h => ?_)
        refine mIf h Iff.rfl (fun c4 h => ?_) (fun c4 h => ?_)
        · refine mLet h rfl (fun x16 ex16 h => ?_)
          exact ih _ _ _ _ _ _ _ R sl0A h k
        · cases h
          exact k
set_option maxHeartbeats 4000000 in
set_option maxRecDepth 100000 in
theorem LX8_areMultiples {α : Nat → Nat} {F : Nat} {S : wPS} {Ln : Nat → Nat} {V : mV} {v : Int32} {Φ : (Int32 → wPS → Prop)} {l0Ax : Nat} {l0A : Nat} {l1Jx l1J : Int64} {l3Jx l3J : Int64} {l5Jx l5J : Int64} (h : mX8_areMultiples F l0A l1J l3J l5J V = some v) (R : mRel α S Ln V) (sl0A : mK l0A = 3) (el0A : l0Ax = α l0A) (el1J : l1Jx = l1J) (el3J : l3Jx = l3J) (el5J : l5Jx = l5J) (k : (Φ v S)) : rX8_areMultiples F l0Ax l1Jx l3Jx l5Jx S Φ := by
  have el0A := el0A.symm
  subst el0A
  have el1J := el1J.symm
  subst el1J
  have el3J := el3J.symm
  subst el3J
  have el5J := el5J.symm
  subst el5J
  have ih := LX8_areMultiples_go  (α := α) (F := F) (v := v) (Ln := Ln) (Φ := Φ) F
  unfold mX8_areMultiples mX8_areMultiples_s at h
  unfold rX8_areMultiples rX8_areMultiples_s
  exact ih _ _ _ _ _ _ _ R sl0A h k
def mX8_isNoMultiple_b0 (F : Nat) (rec : Nat → Nat → Int64 → Int64 → Int64 → mV → Option Int32) (l0A : Nat) (l1J : Int64) (l5J : Int64) (l7J : Int64) (V : mV) : Option Int32 :=
  (if (V.fI l0A 6) ≤ (1 : Int32) then (if (lg_cmp l1J (1 : Int64)) < 0 then some ((0 : Int32)) else (if l1J = 0 then none else (if (lg_cmp (l7J - l7J / l1J * l1J) (0 : Int64)) = 0 then some ((0 : Int32)) else some ((1 : Int32))))) else (mBN (mX8_rightSide F l0A ((1 : Int32)) V) fun v5 => (mLt (l7J + ((Int32.toInt64 v5) * l5J)) fun x10 => (if (lg_cmp l1J (1 : Int64)) < 0 then some ((0 : Int32)) else (if l1J = 0 then none else (if (lg_cmp (x10 - x10 / l1J * l1J) (0 : Int64)) = 0 then some ((0 : Int32)) else some ((1 : Int32))))))))
def mX8_isNoMultiple_go (F : Nat) : Nat → Nat → Nat → Int64 → Int64 → Int64 → mV → Option Int32
  | 0, _, _, _, _, _, _ => none
  | k' + 1, lab, l0A, l1J, l5J, l7J, V => if lab = 0 then mX8_isNoMultiple_b0 F (mX8_isNoMultiple_go F k') l0A l1J l5J l7J V else none
def mX8_isNoMultiple_s (F : Nat) (rec : Nat → Nat → Int64 → Int64 → Int64 → mV → Option Int32) (l0A : Nat) (l1J : Int64) (l3J : Int64) (l5J : Int64) (V : mV) : Option Int32 :=
  (if (V.fI l0A 6) ≤ 0 then (rec 0 l0A (l1J) (l5J) ((0 : Int64)) V) else (mBN (mX8_rightSide F l0A ((0 : Int32)) V) fun v15 => (mLt ((0 : Int64) + ((Int32.toInt64 v15) * l3J)) fun x20 => (rec 0 l0A (l1J) (l5J) (x20) V))))
def mX8_isNoMultiple (F : Nat) (l0A : Nat) (l1J : Int64) (l3J : Int64) (l5J : Int64) (V : mV) : Option Int32 := mX8_isNoMultiple_s F (mX8_isNoMultiple_go F F) l0A l1J l3J l5J V
set_option maxHeartbeats 4000000 in
set_option maxRecDepth 100000 in
theorem LX8_isNoMultiple_go {α : Nat → Nat} {F : Nat} {Ln : Nat → Nat} {v : Int32} {Φ : (Int32 → wPS → Prop)} : ∀ k' : Nat, (∀ (l0A : Nat) (l1J : Int64) (l5J : Int64) (l7J : Int64) (S : wPS) (V : mV) , mRel α S Ln V → mK l0A = 3 → mX8_isNoMultiple_go F k' 0 l0A l1J l5J l7J V = some v → (Φ v S) → rX8_isNoMultiple_go F k' 0 (α l0A) l1J l5J l7J S Φ) := by
  intro k'
  induction k' with
  | zero => exact (fun _ _ _ _ _ _ _ _ h _ => by cases h)
  | succ k' ih =>
    intro l0A l1J l5J l7J S V R sl0A h k
    rw [mX8_isNoMultiple_go, if_pos rfl] at h
    rw [rX8_isNoMultiple_go, if_pos rfl]
    unfold mX8_isNoMultiple_b0 at h
    unfold rX8_isNoMultiple_b0
    refine mIf h (by rw [show gEntry_itemCount S (α l0A) = V.fI l0A 6 from (mg_I (i := l0A) R (mO3 sl0A) rfl 6)]) (fun c1 h => ?_) (fun c1 h => ?_)
    · refine mIf h Iff.rfl (fun c2 h => ?_) (fun c2 h => ?_)
      · cases h
        exact k
      · refine mGd h Iff.rfl (fun c3 h => ?_)
        refine mIf h Iff.rfl (fun c4 h => ?_) (fun c4 h => ?_)
        · cases h
          exact k
        · cases h
          exact k
    · obtain ⟨v5, hv5, h⟩ := mBN_some h
      refine LX8_rightSide hv5 R sl0A rfl rfl ?_
      refine mLet h rfl (fun x10 ex10 h => ?_)
      refine mIf h Iff.rfl (fun c5 h => ?_) (fun c5 h => ?_)
      · cases h
        exact k
      · refine mGd h Iff.rfl (fun c6 h => ?_)
        refine mIf h Iff.rfl (fun c7 h => ?_) (fun c7 h => ?_)
        · cases h
          exact k
        · cases h
          exact k
set_option maxHeartbeats 4000000 in
set_option maxRecDepth 100000 in
theorem LX8_isNoMultiple {α : Nat → Nat} {F : Nat} {S : wPS} {Ln : Nat → Nat} {V : mV} {v : Int32} {Φ : (Int32 → wPS → Prop)} {l0Ax : Nat} {l0A : Nat} {l1Jx l1J : Int64} {l3Jx l3J : Int64} {l5Jx l5J : Int64} (h : mX8_isNoMultiple F l0A l1J l3J l5J V = some v) (R : mRel α S Ln V) (sl0A : mK l0A = 3) (el0A : l0Ax = α l0A) (el1J : l1Jx = l1J) (el3J : l3Jx = l3J) (el5J : l5Jx = l5J) (k : (Φ v S)) : rX8_isNoMultiple F l0Ax l1Jx l3Jx l5Jx S Φ := by
  have el0A := el0A.symm
  subst el0A
  have el1J := el1J.symm
  subst el1J
  have el3J := el3J.symm
  subst el3J
  have el5J := el5J.symm
  subst el5J
  have ih := LX8_isNoMultiple_go  (α := α) (F := F) (v := v) (Ln := Ln) (Φ := Φ) F
  unfold mX8_isNoMultiple mX8_isNoMultiple_s at h
  unfold rX8_isNoMultiple rX8_isNoMultiple_s
  refine mIf h (by rw [show gEntry_itemCount S (α l0A) = V.fI l0A 6 from (mg_I (i := l0A) R (mO3 sl0A) rfl 6)]) (fun c8 h => ?_) (fun c8 h => ?_)
  · exact ih _ _ _ _ _ _ R sl0A h k
  · obtain ⟨v15, hv15, h⟩ := mBN_some h
    refine LX8_rightSide hv15 R sl0A rfl rfl ?_
    refine mLet h rfl (fun x20 ex20 h => ?_)
    exact ih _ _ _ _ _ _ R sl0A h k
def mX8_leastDivisor_b0 (F : Nat) (rec : Nat → Int32 → Int32 → Option Int32) (l0I : Int32) (l1I : Int32) : Option Int32 :=
  (if l1I = 0 then none else (if (l0I / l1I) < l1I then some (l0I) else (if l1I = 0 then none else (if (l0I - l0I / l1I * l1I) = 0 then some (l1I) else (mLt (l1I + (1 : Int32)) fun x5 => (rec 0 (l0I) (x5)))))))
def mX8_leastDivisor_go (F : Nat) : Nat → Nat → Int32 → Int32 → Option Int32
  | 0, _, _, _ => none
  | k' + 1, lab, l0I, l1I => if lab = 0 then mX8_leastDivisor_b0 F (mX8_leastDivisor_go F k') l0I l1I  else none
def mX8_leastDivisor_s (F : Nat) (rec : Nat → Int32 → Int32 → Option Int32) (l0I : Int32) : Option Int32 :=
  (rec 0 (l0I) ((2 : Int32)))
def mX8_leastDivisor (F : Nat) (l0I : Int32) : Option Int32 := mX8_leastDivisor_s F (mX8_leastDivisor_go F F) l0I 
set_option maxHeartbeats 4000000 in
set_option maxRecDepth 100000 in
theorem LX8_leastDivisor_go {F : Nat} {v : Int32} {Φ : (Int32 → wPS → Prop)} : ∀ k' : Nat, (∀ (l0I : Int32) (l1I : Int32) (S : wPS) , mX8_leastDivisor_go F k' 0 l0I l1I  = some v → (Φ v S) → rX8_leastDivisor_go F k' 0 l0I l1I S Φ) := by
  intro k'
  induction k' with
  | zero => exact (fun _ _ _ h _ => by cases h)
  | succ k' ih =>
    intro l0I l1I S h k
    rw [mX8_leastDivisor_go, if_pos rfl] at h
    rw [rX8_leastDivisor_go, if_pos rfl]
    unfold mX8_leastDivisor_b0 at h
    unfold rX8_leastDivisor_b0
    refine mGd h Iff.rfl (fun c1 h => ?_)
    refine mIf h Iff.rfl (fun c2 h => ?_) (fun c2 h => ?_)
    · cases h
      exact k
    · refine mGd h Iff.rfl (fun c3 h => ?_)
      refine mIf h Iff.rfl (fun c4 h => ?_) (fun c4 h => ?_)
      · cases h
        exact k
      · refine mLet h rfl (fun x5 ex5 h => ?_)
        exact ih _ _ _ h k
set_option maxHeartbeats 4000000 in
set_option maxRecDepth 100000 in
theorem LX8_leastDivisor {F : Nat} {S : wPS} {v : Int32} {Φ : (Int32 → wPS → Prop)} {l0Ix l0I : Int32} (h : mX8_leastDivisor F l0I  = some v) (el0I : l0Ix = l0I) (k : (Φ v S)) : rX8_leastDivisor F l0Ix S Φ := by
  have el0I := el0I.symm
  subst el0I
  have ih := LX8_leastDivisor_go  (F := F) (v := v) (Φ := Φ) F
  unfold mX8_leastDivisor mX8_leastDivisor_s at h
  unfold rX8_leastDivisor rX8_leastDivisor_s
  exact ih _ _ _ h k
def mX8_withoutDivisor_b0 (F : Nat) (rec : Nat → Int32 → Int32 → Int32 → Option Int32) (l1I : Int32) (l2I : Int32) (l3I : Int32) : Option Int32 :=
  (if (32 : Int32) ≤ l3I then some (l2I) else (if l1I ≤ (1 : Int32) then some (l2I) else (if l2I ≤ (1 : Int32) then some (l2I) else (if l1I = 0 then none else (if (l2I - l2I / l1I * l1I) = 0 then (if l1I = 0 then none else (mLt (l2I / l1I) fun x7 => (mLt (l3I + (1 : Int32)) fun x8 => (rec 0 (l1I) (x7) (x8))))) else some (l2I))))))
def mX8_withoutDivisor_go (F : Nat) : Nat → Nat → Int32 → Int32 → Int32 → Option Int32
  | 0, _, _, _, _ => none
  | k' + 1, lab, l1I, l2I, l3I => if lab = 0 then mX8_withoutDivisor_b0 F (mX8_withoutDivisor_go F k') l1I l2I l3I  else none
def mX8_withoutDivisor_s (F : Nat) (rec : Nat → Int32 → Int32 → Int32 → Option Int32) (l0I : Int32) (l1I : Int32) : Option Int32 :=
  (rec 0 (l1I) (l0I) ((0 : Int32)))
def mX8_withoutDivisor (F : Nat) (l0I : Int32) (l1I : Int32) : Option Int32 := mX8_withoutDivisor_s F (mX8_withoutDivisor_go F F) l0I l1I 
set_option maxHeartbeats 4000000 in
set_option maxRecDepth 100000 in
theorem LX8_withoutDivisor_go {F : Nat} {v : Int32} {Φ : (Int32 → wPS → Prop)} : ∀ k' : Nat, (∀ (l1I : Int32) (l2I : Int32) (l3I : Int32) (S : wPS) , mX8_withoutDivisor_go F k' 0 l1I l2I l3I  = some v → (Φ v S) → rX8_withoutDivisor_go F k' 0 l1I l2I l3I S Φ) := by
  intro k'
  induction k' with
  | zero => exact (fun _ _ _ _ h _ => by cases h)
  | succ k' ih =>
    intro l1I l2I l3I S h k
    rw [mX8_withoutDivisor_go, if_pos rfl] at h
    rw [rX8_withoutDivisor_go, if_pos rfl]
    unfold mX8_withoutDivisor_b0 at h
    unfold rX8_withoutDivisor_b0
    refine mIf h Iff.rfl (fun c1 h => ?_) (fun c1 h => ?_)
    · cases h
      exact k
    · refine mIf h Iff.rfl (fun c2 h => ?_) (fun c2 h => ?_)
      · cases h
        exact k
      · refine mIf h Iff.rfl (fun c3 h => ?_) (fun c3 h => ?_)
        · cases h
          exact k
        · refine mGd h Iff.rfl (fun c4 h => ?_)
          refine mIf h Iff.rfl (fun c5 h => ?_) (fun c5 h => ?_)
          · refine mGd h Iff.rfl (fun c6 h => ?_)
            refine mLet h rfl (fun x7 ex7 h => ?_)
            refine mLet h rfl (fun x8 ex8 h => ?_)
            exact ih _ _ _ _ h k
          · cases h
            exact k
set_option maxHeartbeats 4000000 in
set_option maxRecDepth 100000 in
theorem LX8_withoutDivisor {F : Nat} {S : wPS} {v : Int32} {Φ : (Int32 → wPS → Prop)} {l0Ix l0I : Int32} {l1Ix l1I : Int32} (h : mX8_withoutDivisor F l0I l1I  = some v) (el0I : l0Ix = l0I) (el1I : l1Ix = l1I) (k : (Φ v S)) : rX8_withoutDivisor F l0Ix l1Ix S Φ := by
  have el0I := el0I.symm
  subst el0I
  have el1I := el1I.symm
  subst el1I
  have ih := LX8_withoutDivisor_go  (F := F) (v := v) (Φ := Φ) F
  unfold mX8_withoutDivisor mX8_withoutDivisor_s at h
  unfold rX8_withoutDivisor rX8_withoutDivisor_s
  exact ih _ _ _ _ h k
def mX8_degreeOf_b0 (F : Nat) (rec : Nat → Nat → Int32 → Int32 → mV → Option Int32) (l0A : Nat) (l1I : Int32) (l2I : Int32) (V : mV) : Option Int32 :=
  (if (Int32.ofNat (mLen l0A)) ≤ l2I then some (l1I) else (if l2I < 0 ∨ mLen l0A ≤ (l2I).toNatClampNeg then none else (if (lg_cmp (V.rJ l0A (l2I).toNatClampNeg) (0 : Int64)) = 0 then (mLt (l2I + (1 : Int32)) fun x4 => (rec 0 l0A (l1I) (x4) V)) else (mLt (l2I + (1 : Int32)) fun x5 => (rec 0 l0A (l2I) (x5) V)))))
def mX8_degreeOf_go (F : Nat) : Nat → Nat → Nat → Int32 → Int32 → mV → Option Int32
  | 0, _, _, _, _, _ => none
  | k' + 1, lab, l0A, l1I, l2I, V => if lab = 0 then mX8_degreeOf_b0 F (mX8_degreeOf_go F k') l0A l1I l2I V else none
def mX8_degreeOf_s (F : Nat) (rec : Nat → Nat → Int32 → Int32 → mV → Option Int32) (l0A : Nat) (V : mV) : Option Int32 :=
  (rec 0 l0A ((-1 : Int32)) ((0 : Int32)) V)
def mX8_degreeOf (F : Nat) (l0A : Nat) (V : mV) : Option Int32 := mX8_degreeOf_s F (mX8_degreeOf_go F F) l0A V
set_option maxHeartbeats 4000000 in
set_option maxRecDepth 100000 in
theorem LX8_degreeOf_go {α : Nat → Nat} {F : Nat} {Ln : Nat → Nat} {v : Int32} {Φ : (Int32 → wPS → Prop)} : ∀ k' : Nat, (∀ (l0A : Nat) (l1I : Int32) (l2I : Int32) (S : wPS) (V : mV) , mRel α S Ln V → mK l0A = 14 → mX8_degreeOf_go F k' 0 l0A l1I l2I V = some v → (Φ v S) → rX8_degreeOf_go F k' 0 (α l0A) l1I l2I S Φ) := by
  intro k'
  induction k' with
  | zero => exact (fun _ _ _ _ _ _ _ h _ => by cases h)
  | succ k' ih =>
    intro l0A l1I l2I S V R sl0A h k
    rw [mX8_degreeOf_go, if_pos rfl] at h
    rw [rX8_degreeOf_go, if_pos rfl]
    unfold mX8_degreeOf_b0 at h
    unfold rX8_degreeOf_b0
    refine mIf h (by rw [show S.len (α l0A) = mLen l0A from (mg_len R (mA14 sl0A) rfl)]) (fun c1 h => ?_) (fun c1 h => ?_)
    · cases h
      exact k
    · refine mGd h (by rw [show S.len (α l0A) = mLen l0A from (mg_len R (mA14 sl0A) rfl)]) (fun c2 h => ?_)
      refine mIf h (by rw [show S.rJ (α l0A) (l2I).toNatClampNeg = V.rJ l0A (l2I).toNatClampNeg from (mg_rJ (i := l0A) R (mA14 sl0A) rfl rfl)]) (fun c3 h => ?_) (fun c3 h => ?_)
      · refine mLet h rfl (fun x4 ex4 h => ?_)
        exact ih _ _ _ _ _ R sl0A h k
      · refine mLet h rfl (fun x5 ex5 h => ?_)
        exact ih _ _ _ _ _ R sl0A h k
set_option maxHeartbeats 4000000 in
set_option maxRecDepth 100000 in
theorem LX8_degreeOf {α : Nat → Nat} {F : Nat} {S : wPS} {Ln : Nat → Nat} {V : mV} {v : Int32} {Φ : (Int32 → wPS → Prop)} {l0Ax : Nat} {l0A : Nat} (h : mX8_degreeOf F l0A V = some v) (R : mRel α S Ln V) (sl0A : mK l0A = 14) (el0A : l0Ax = α l0A) (k : (Φ v S)) : rX8_degreeOf F l0Ax S Φ := by
  have el0A := el0A.symm
  subst el0A
  have ih := LX8_degreeOf_go  (α := α) (F := F) (v := v) (Ln := Ln) (Φ := Φ) F
  unfold mX8_degreeOf mX8_degreeOf_s at h
  unfold rX8_degreeOf rX8_degreeOf_s
  exact ih _ _ _ _ _ R sl0A h k
def mX8_senseAt_b0 (F : Nat) (rec : Nat → Int64 → Int32 → Int32 → Int32 → Int64 → Int64 → Int32 → Int64 → mV → Option Int32) (l1I : Int32) (l2I : Int32) (l4J : Int64) (l6J : Int64) (l8I : Int32) (V : mV) : Option Int32 :=
  (if l2I ≤ l8I then (if l1I < 0 ∨ 5 ≤ (l1I).toNatClampNeg then none else (mLt (V.rI 67 (l1I).toNatClampNeg) fun x3 => (if l1I < 0 ∨ 5 ≤ (l1I).toNatClampNeg then none else (if x3 < 0 ∨ 4 ≤ (x3).toNatClampNeg then none else (mLt (V.rJ (62 + (l1I).toNatClampNeg) (x3).toNatClampNeg) fun x7 => (mLt (x3 - (1 : Int32)) fun x8 => (rec 1 ((1 : Int64)) (x8) (l1I) 0 (l4J) (l6J) 0 (x7) V))))))) else (if (lg_cmp (l4J - l4J / (2 : Int64) * (2 : Int64)) (0 : Int64)) = 0 then (if (lg_cmp l6J (1 : Int64)) ≤ 0 then (if l1I < 0 ∨ 5 ≤ (l1I).toNatClampNeg then none else (mLt (V.rI 67 (l1I).toNatClampNeg) fun x19 => (if l1I < 0 ∨ 5 ≤ (l1I).toNatClampNeg then none else (if x19 < 0 ∨ 4 ≤ (x19).toNatClampNeg then none else (mLt (V.rJ (62 + (l1I).toNatClampNeg) (x19).toNatClampNeg) fun x23 => (mLt (x19 - (1 : Int32)) fun x24 => (rec 1 ((1 : Int64)) (x24) (l1I) 0 (l4J) (l6J) 0 (x23) V))))))) else (mLt (l4J / (2 : Int64)) fun x25 => (mLt (l6J / (2 : Int64)) fun x26 => (mLt (l8I + (1 : Int32)) fun x27 => (rec 0 0 0 (l1I) (l2I) (x25) (x26) (x27) 0 V))))) else (if l1I < 0 ∨ 5 ≤ (l1I).toNatClampNeg then none else (mLt (V.rI 67 (l1I).toNatClampNeg) fun x11 => (if l1I < 0 ∨ 5 ≤ (l1I).toNatClampNeg then none else (if x11 < 0 ∨ 4 ≤ (x11).toNatClampNeg then none else (mLt (V.rJ (62 + (l1I).toNatClampNeg) (x11).toNatClampNeg) fun x15 => (mLt (x11 - (1 : Int32)) fun x16 => (rec 1 ((1 : Int64)) (x16) (l1I) 0 (l4J) (l6J) 0 (x15) V)))))))))
def mX8_senseAt_b1 (F : Nat) (rec : Nat → Int64 → Int32 → Int32 → Int32 → Int64 → Int64 → Int32 → Int64 → mV → Option Int32) (l1I : Int32) (l4J : Int64) (l6J : Int64) (l9J : Int64) (l11J : Int64) (l13I : Int32) (V : mV) : Option Int32 :=
  (if l13I < 0 then (if (lg_cmp l9J (0 : Int64)) ≤ 0 then (if 0 ≤ (lg_cmp l9J (0 : Int64)) then some ((0 : Int32)) else some ((-1 : Int32))) else some ((1 : Int32))) else (mLt (l11J * l6J) fun x31 => (if l1I < 0 ∨ 5 ≤ (l1I).toNatClampNeg then none else (if l13I < 0 ∨ 4 ≤ (l13I).toNatClampNeg then none else (mLt ((l9J * l4J) + ((V.rJ (62 + (l1I).toNatClampNeg) (l13I).toNatClampNeg) * x31)) fun x35 => (mLt (l13I + (-1 : Int32)) fun x36 => (rec 1 (x31) (x36) (l1I) 0 (l4J) (l6J) 0 (x35) V)))))))
def mX8_senseAt_go (F : Nat) : Nat → Nat → Int64 → Int32 → Int32 → Int32 → Int64 → Int64 → Int32 → Int64 → mV → Option Int32
  | 0, _, _, _, _, _, _, _, _, _, _ => none
  | k' + 1, lab, l11J, l13I, l1I, l2I, l4J, l6J, l8I, l9J, V => if lab = 0 then mX8_senseAt_b0 F (mX8_senseAt_go F k') l1I l2I l4J l6J l8I V else if lab = 1 then mX8_senseAt_b1 F (mX8_senseAt_go F k') l1I l4J l6J l9J l11J l13I V else none
def mX8_senseAt_s (F : Nat) (rec : Nat → Int64 → Int32 → Int32 → Int32 → Int64 → Int64 → Int32 → Int64 → mV → Option Int32) (l1I : Int32) (l2I : Int32) (l3I : Int32) (V : mV) : Option Int32 :=
  (mLt (((16 : Int64) * (Int32.toInt64 l3I)) - ((8 : Int64) <<< ((l2I).toInt64 &&& 63))) fun x37 => (mLt ((1 : Int64) <<< ((l2I).toInt64 &&& 63)) fun x38 => (rec 0 0 0 (l1I) (l2I) (x37) (x38) ((0 : Int32)) 0 V)))
def mX8_senseAt (F : Nat) (l1I : Int32) (l2I : Int32) (l3I : Int32) (V : mV) : Option Int32 := mX8_senseAt_s F (mX8_senseAt_go F F) l1I l2I l3I V
set_option maxHeartbeats 4000000 in
set_option maxRecDepth 100000 in
theorem LX8_senseAt_go {α : Nat → Nat} {F : Nat} {Ln : Nat → Nat} {v : Int32} {Φ : (Int32 → wPS → Prop)} : ∀ k' : Nat, (∀ (l1I : Int32) (l2I : Int32) (l4J : Int64) (l6J : Int64) (l8I : Int32) (S : wPS) (V : mV) , mRel α S Ln V → mX8_senseAt_go F k' 0 0 0 l1I l2I l4J l6J l8I 0 V = some v → (Φ v S) → rX8_senseAt_go F k' 0 (α 6) 0 0 l1I l2I l4J l6J l8I 0 S Φ) ∧ (∀ (l1I : Int32) (l4J : Int64) (l6J : Int64) (l9J : Int64) (l11J : Int64) (l13I : Int32) (S : wPS) (V : mV) , mRel α S Ln V → mX8_senseAt_go F k' 1 l11J l13I l1I 0 l4J l6J 0 l9J V = some v → (Φ v S) → rX8_senseAt_go F k' 1 (α 6) l11J l13I l1I 0 l4J l6J 0 l9J S Φ) := by
  intro k'
  induction k' with
  | zero => exact ⟨(fun _ _ _ _ _ _ _ _ h _ => by cases h), (fun _ _ _ _ _ _ _ _ _ h _ => by cases h)⟩
  | succ k' ih =>
    refine ⟨?_, ?_⟩
    · intro l1I l2I l4J l6J l8I S V R h k
      rw [mX8_senseAt_go, if_pos rfl] at h
      rw [rX8_senseAt_go, if_pos rfl]
      unfold mX8_senseAt_b0 at h
      unfold rX8_senseAt_b0
      refine mIf h Iff.rfl (fun c1 h => ?_) (fun c1 h => ?_)
      · refine mGd h (by rw [show S.len (wkAd (gNumbers_degrees S (α 6))) = 5 from (mg_len (i := 67) R (mA13 rfl) (mg_A (t := 67) R rfl rfl))]) (fun c2 h => ?_)
        refine mLet h (by rw [show S.rI (wkAd (gNumbers_degrees S (α 6))) (l1I).toNatClampNeg = V.rI 67 (l1I).toNatClampNeg from (mg_rI (i := 67) R (mA13 rfl) (mg_A (t := 67) R rfl rfl) rfl)]) (fun x3 ex3 h => ?_)
        refine mGd h (by rw [show S.len (wkAd (gNumbers_chain S (α 6))) = 5 from (mg_len (i := 61) R (mAr (by decide)) (mg_A (t := 61) R rfl rfl))]) (fun c3 h => ?_)
        refine mGd h (by rw [show S.len (wkAd (S.rA (wkAd (gNumbers_chain S (α 6))) (l1I).toNatClampNeg)) = 4 from ((mg_len R (mA14 (mKA61 (Nat.lt_of_not_le (fun z => c3 (Or.inr z))))) (mg_RA R (mRA61 (Nat.lt_of_not_le (fun z => c3 (Or.inr z)))) (mg_A (t := 61) R rfl rfl) rfl)).trans (mLA61 (Nat.lt_of_not_le (fun z => c3 (Or.inr z)))))]) (fun c4 h => ?_)
        refine mLet h (by rw [show S.rJ (wkAd (S.rA (wkAd (gNumbers_chain S (α 6))) (l1I).toNatClampNeg)) (x3).toNatClampNeg = V.rJ (62 + (l1I).toNatClampNeg) (x3).toNatClampNeg from (mg_rJ (i := (62 + (l1I).toNatClampNeg)) R (mA14 (mKA61 (Nat.lt_of_not_le (fun z => c3 (Or.inr z))))) (mg_RA R (mRA61 (Nat.lt_of_not_le (fun z => c3 (Or.inr z)))) (mg_A (t := 61) R rfl rfl) rfl) rfl)]) (fun x7 ex7 h => ?_)
        refine mLet h rfl (fun x8 ex8 h => ?_)
        exact ih.2 _ _ _ _ _ _ _ _ R h k
      · refine mIf h Iff.rfl (fun c5 h => ?_) (fun c5 h => ?_)
        · refine mIf h Iff.rfl (fun c6 h => ?_) (fun c6 h => ?_)
          · refine mGd h (by rw [show S.len (wkAd (gNumbers_degrees S (α 6))) = 5 from (mg_len (i := 67) R (mA13 rfl) (mg_A (t := 67) R rfl rfl))]) (fun c7 h => ?_)
            refine mLet h (by rw [show S.rI (wkAd (gNumbers_degrees S (α 6))) (l1I).toNatClampNeg = V.rI 67 (l1I).toNatClampNeg from (mg_rI (i := 67) R (mA13 rfl) (mg_A (t := 67) R rfl rfl) rfl)]) (fun x19 ex19 h => ?_)
            refine mGd h (by rw [show S.len (wkAd (gNumbers_chain S (α 6))) = 5 from (mg_len (i := 61) R (mAr (by decide)) (mg_A (t := 61) R rfl rfl))]) (fun c8 h => ?_)
            refine mGd h (by rw [show S.len (wkAd (S.rA (wkAd (gNumbers_chain S (α 6))) (l1I).toNatClampNeg)) = 4 from ((mg_len R (mA14 (mKA61 (Nat.lt_of_not_le (fun z => c8 (Or.inr z))))) (mg_RA R (mRA61 (Nat.lt_of_not_le (fun z => c8 (Or.inr z)))) (mg_A (t := 61) R rfl rfl) rfl)).trans (mLA61 (Nat.lt_of_not_le (fun z => c8 (Or.inr z)))))]) (fun c9 h => ?_)
            refine mLet h (by rw [show S.rJ (wkAd (S.rA (wkAd (gNumbers_chain S (α 6))) (l1I).toNatClampNeg)) (x19).toNatClampNeg = V.rJ (62 + (l1I).toNatClampNeg) (x19).toNatClampNeg from (mg_rJ (i := (62 + (l1I).toNatClampNeg)) R (mA14 (mKA61 (Nat.lt_of_not_le (fun z => c8 (Or.inr z))))) (mg_RA R (mRA61 (Nat.lt_of_not_le (fun z => c8 (Or.inr z)))) (mg_A (t := 61) R rfl rfl) rfl) rfl)]) (fun x23 ex23 h => ?_)
            refine mLet h rfl (fun x24 ex24 h => ?_)
            exact ih.2 _ _ _ _ _ _ _ _ R h k
          · refine mLet h rfl (fun x25 ex25 h => ?_)
            refine mLet h rfl (fun x26 ex26 h => ?_)
            refine mLet h rfl (fun x27 ex27 h => ?_)
            exact ih.1 _ _ _ _ _ _ _ R h k
        · refine mGd h (by rw [show S.len (wkAd (gNumbers_degrees S (α 6))) = 5 from (mg_len (i := 67) R (mA13 rfl) (mg_A (t := 67) R rfl rfl))]) (fun c10 h => ?_)
          refine mLet h (by rw [show S.rI (wkAd (gNumbers_degrees S (α 6))) (l1I).toNatClampNeg = V.rI 67 (l1I).toNatClampNeg from (mg_rI (i := 67) R (mA13 rfl) (mg_A (t := 67) R rfl rfl) rfl)]) (fun x11 ex11 h => ?_)
          refine mGd h (by rw [show S.len (wkAd (gNumbers_chain S (α 6))) = 5 from (mg_len (i := 61) R (mAr (by decide)) (mg_A (t := 61) R rfl rfl))]) (fun c11 h => ?_)
          refine mGd h (by rw [show S.len (wkAd (S.rA (wkAd (gNumbers_chain S (α 6))) (l1I).toNatClampNeg)) = 4 from ((mg_len R (mA14 (mKA61 (Nat.lt_of_not_le (fun z => c11 (Or.inr z))))) (mg_RA R (mRA61 (Nat.lt_of_not_le (fun z => c11 (Or.inr z)))) (mg_A (t := 61) R rfl rfl) rfl)).trans (mLA61 (Nat.lt_of_not_le (fun z => c11 (Or.inr z)))))]) (fun c12 h => ?_)
          refine mLet h (by rw [show S.rJ (wkAd (S.rA (wkAd (gNumbers_chain S (α 6))) (l1I).toNatClampNeg)) (x11).toNatClampNeg = V.rJ (62 + (l1I).toNatClampNeg) (x11).toNatClampNeg from (mg_rJ (i := (62 + (l1I).toNatClampNeg)) R (mA14 (mKA61 (Nat.lt_of_not_le (fun z => c11 (Or.inr z))))) (mg_RA R (mRA61 (Nat.lt_of_not_le (fun z => c11 (Or.inr z)))) (mg_A (t := 61) R rfl rfl) rfl) rfl)]) (fun x15 ex15 h => ?_)
          refine mLet h rfl (fun x16 ex16 h => ?_)
          exact ih.2 _ _ _ _ _ _ _ _ R h k
    · intro l1I l4J l6J l9J l11J l13I S V R h k
      rw [mX8_senseAt_go, if_neg (by decide), if_pos rfl] at h
      rw [rX8_senseAt_go, if_neg (by decide), if_pos rfl]
      unfold mX8_senseAt_b1 at h
      unfold rX8_senseAt_b1
      refine mIf h Iff.rfl (fun c13 h => ?_) (fun c13 h => ?_)
      · refine mIf h Iff.rfl (fun c14 h => ?_) (fun c14 h => ?_)
        · refine mIf h Iff.rfl (fun c15 h => ?_) (fun c15 h => ?_)
          · cases h
            exact k
          · cases h
            exact k
        · cases h
          exact k
      · refine mLet h rfl (fun x31 ex31 h => ?_)
        refine mGd h (by rw [show S.len (wkAd (gNumbers_chain S (α 6))) = 5 from (mg_len (i := 61) R (mAr (by decide)) (mg_A (t := 61) R rfl rfl))]) (fun c16 h => ?_)
        refine mGd h (by rw [show S.len (wkAd (S.rA (wkAd (gNumbers_chain S (α 6))) (l1I).toNatClampNeg)) = 4 from ((mg_len R (mA14 (mKA61 (Nat.lt_of_not_le (fun z => c16 (Or.inr z))))) (mg_RA R (mRA61 (Nat.lt_of_not_le (fun z => c16 (Or.inr z)))) (mg_A (t := 61) R rfl rfl) rfl)).trans (mLA61 (Nat.lt_of_not_le (fun z => c16 (Or.inr z)))))]) (fun c17 h => ?_)
        refine mLet h (by rw [show S.rJ (wkAd (S.rA (wkAd (gNumbers_chain S (α 6))) (l1I).toNatClampNeg)) (l13I).toNatClampNeg = V.rJ (62 + (l1I).toNatClampNeg) (l13I).toNatClampNeg from (mg_rJ (i := (62 + (l1I).toNatClampNeg)) R (mA14 (mKA61 (Nat.lt_of_not_le (fun z => c16 (Or.inr z))))) (mg_RA R (mRA61 (Nat.lt_of_not_le (fun z => c16 (Or.inr z)))) (mg_A (t := 61) R rfl rfl) rfl) rfl)]) (fun x35 ex35 h => ?_)
        refine mLet h rfl (fun x36 ex36 h => ?_)
        exact ih.2 _ _ _ _ _ _ _ _ R h k
set_option maxHeartbeats 4000000 in
set_option maxRecDepth 100000 in
theorem LX8_senseAt {α : Nat → Nat} {F : Nat} {S : wPS} {Ln : Nat → Nat} {V : mV} {v : Int32} {Φ : (Int32 → wPS → Prop)} {l0Ax : Nat} {l1Ix l1I : Int32} {l2Ix l2I : Int32} {l3Ix l3I : Int32} (h : mX8_senseAt F l1I l2I l3I V = some v) (R : mRel α S Ln V) (el0A : l0Ax = α 6) (el1I : l1Ix = l1I) (el2I : l2Ix = l2I) (el3I : l3Ix = l3I) (k : (Φ v S)) : rX8_senseAt F l0Ax l1Ix l2Ix l3Ix S Φ := by
  have el0A := el0A.symm
  subst el0A
  have el1I := el1I.symm
  subst el1I
  have el2I := el2I.symm
  subst el2I
  have el3I := el3I.symm
  subst el3I
  have ih := LX8_senseAt_go  (α := α) (F := F) (v := v) (Ln := Ln) (Φ := Φ) F
  unfold mX8_senseAt mX8_senseAt_s at h
  unfold rX8_senseAt rX8_senseAt_s
  refine mLet h rfl (fun x37 ex37 h => ?_)
  refine mLet h rfl (fun x38 ex38 h => ?_)
  exact ih.1 _ _ _ _ _ _ _ R h k
def mX8_signInRow (F : Nat) (l1I : Int32) (V : mV) : Option Int32 :=
  (if (if (1 : Int32) < (V.fI 6 8) then (V.fI 6 8) else (1 : Int32)) = 0 then none else (if (V.fI 6 8) ≤ l1I then (mBN (mX8_senseAt F ((l1I - l1I / (if (1 : Int32) < (V.fI 6 8) then (V.fI 6 8) else (1 : Int32)) * (if (1 : Int32) < (V.fI 6 8) then (V.fI 6 8) else (1 : Int32)))) ((0 : Int32)) ((1 : Int32)) V) fun v3 => some (v3)) else (mBN (mX8_senseAt F ((l1I - l1I / (if (1 : Int32) < (V.fI 6 8) then (V.fI 6 8) else (1 : Int32)) * (if (1 : Int32) < (V.fI 6 8) then (V.fI 6 8) else (1 : Int32)))) ((0 : Int32)) ((0 : Int32)) V) fun v8 => some (v8))))
set_option maxHeartbeats 4000000 in
set_option maxRecDepth 100000 in
theorem LX8_signInRow {α : Nat → Nat} {F : Nat} {S : wPS} {Ln : Nat → Nat} {V : mV} {v : Int32} {Φ : (Int32 → wPS → Prop)} {l0Ax : Nat} {l1Ix l1I : Int32} (h : mX8_signInRow F l1I V = some v) (R : mRel α S Ln V) (el0A : l0Ax = α 6) (el1I : l1Ix = l1I) (k : (Φ v S)) : rX8_signInRow F l0Ax l1Ix S Φ := by
  have el0A := el0A.symm
  subst el0A
  have el1I := el1I.symm
  subst el1I
  unfold mX8_signInRow at h
  unfold rX8_signInRow
  refine mGd h (by rw [show gNumbers_chainCount S (α 6) = V.fI 6 8 from (mg_I (i := 6) R (by decide) rfl 8)]) (fun c1 h => ?_)
  refine mIf h (by rw [show gNumbers_chainCount S (α 6) = V.fI 6 8 from (mg_I (i := 6) R (by decide) rfl 8)]) (fun c2 h => ?_) (fun c2 h => ?_)
  · obtain ⟨v3, hv3, h⟩ := mBN_some h
    refine LX8_senseAt hv3 R rfl (by rw [show gNumbers_chainCount S (α 6) = V.fI 6 8 from (mg_I (i := 6) R (by decide) rfl 8)]) rfl rfl ?_
    cases h
    exact k
  · obtain ⟨v8, hv8, h⟩ := mBN_some h
    refine LX8_senseAt hv8 R rfl (by rw [show gNumbers_chainCount S (α 6) = V.fI 6 8 from (mg_I (i := 6) R (by decide) rfl 8)]) rfl rfl ?_
    cases h
    exact k
def mX9_clear (F : Nat) (l0A : Nat) (V : mV) : Option (Unit × mV) :=
  (mLt (mF V l0A 1 ((0 : Int32))) fun V1 => some ((), V1))
set_option maxHeartbeats 4000000 in
set_option maxRecDepth 100000 in
theorem LX9_clear {α : Nat → Nat} {F : Nat} {S : wPS} {Ln : Nat → Nat} {V V1 : mV} {v : Unit} {Φ : (Unit → wPS → Prop)} {l0Ax : Nat} {l0A : Nat} (h : mX9_clear F l0A V = some (v, V1)) (R : mRel α S Ln V) (sl0A : mK l0A = 9) (el0A : l0Ax = α l0A) (k : (∀ S1, mRel α S1 Ln V1 → mFr α S S1 → Φ v S1)) : rX9_clear F l0Ax S Φ := by
  have el0A := el0A.symm
  subst el0A
  unfold mX9_clear at h
  unfold rX9_clear
  obtain ⟨V1, eV1, h⟩ := mLt_some h
  refine mU_F eV1 R (mO9 sl0A) rfl rfl (fun S1 R1 F1 => ?_)
  obtain ⟨rfl, rfl⟩ := mRW h
  exact k _ R1 F1
def mX9_at (F : Nat) (Ln : Nat → Nat) (l0A : Nat) (l1I : Int32) (V : mV) : Option Int32 :=
  (if l1I < 0 then some ((0 : Int32)) else (if (V.fI l0A 1) ≤ l1I then some ((0 : Int32)) else (if l1I < 0 ∨ Ln (l0A + 1) ≤ (l1I).toNatClampNeg then none else some ((V.rI (l0A + 1) (l1I).toNatClampNeg)))))
set_option maxHeartbeats 4000000 in
set_option maxRecDepth 100000 in
theorem LX9_at {α : Nat → Nat} {F : Nat} {S : wPS} {Ln : Nat → Nat} {V : mV} {v : Int32} {Φ : (Int32 → wPS → Prop)} {l0Ax : Nat} {l0A : Nat} {l1Ix l1I : Int32} (h : mX9_at F Ln l0A l1I V = some v) (R : mRel α S Ln V) (sl0A : mK l0A = 9) (el0A : l0Ax = α l0A) (el1I : l1Ix = l1I) (k : (Φ v S)) : rX9_at F l0Ax l1Ix S Φ := by
  have el0A := el0A.symm
  subst el0A
  have el1I := el1I.symm
  subst el1I
  unfold mX9_at at h
  unfold rX9_at
  refine mIf h Iff.rfl (fun c1 h => ?_) (fun c1 h => ?_)
  · cases h
    exact k
  · refine mIf h (by rw [show gRow_count S (α l0A) = V.fI l0A 1 from (mg_I (i := l0A) R (mO9 sl0A) rfl 1)]) (fun c2 h => ?_) (fun c2 h => ?_)
    · cases h
      exact k
    · refine mGd h (by rw [show S.len (wkAd (gRow_numbers S (α l0A))) = Ln (l0A + 1) from (md_len R (mK9 sl0A) (mg_D (S := S) sl0A rfl))]) (fun c3 h => ?_)
      cases h
      rw [show S.rI (wkAd (gRow_numbers S (α l0A))) (l1I).toNatClampNeg = V.rI (l0A + 1) (l1I).toNatClampNeg from (md_rI R (mK9 sl0A) (mg_D (S := S) sl0A rfl) rfl)]
      exact k
def mX9_set (F : Nat) (Ln : Nat → Nat) (l0A : Nat) (l1I : Int32) (l2I : Int32) (V : mV) : Option (Unit × mV) :=
  (if l1I < 0 then some ((), V) else (if (V.fI l0A 1) ≤ l1I then some ((), V) else (if l1I < 0 ∨ Ln (l0A + 1) ≤ (l1I).toNatClampNeg then none else (mLt (mI V (l0A + 1) (l1I) (l2I)) fun V4 => some ((), V4)))))
set_option maxHeartbeats 4000000 in
set_option maxRecDepth 100000 in
theorem LX9_set {α : Nat → Nat} {F : Nat} {S : wPS} {Ln : Nat → Nat} {V V1 : mV} {v : Unit} {Φ : (Unit → wPS → Prop)} {l0Ax : Nat} {l0A : Nat} {l1Ix l1I : Int32} {l2Ix l2I : Int32} (h : mX9_set F Ln l0A l1I l2I V = some (v, V1)) (R : mRel α S Ln V) (sl0A : mK l0A = 9) (el0A : l0Ax = α l0A) (el1I : l1Ix = l1I) (el2I : l2Ix = l2I) (k : (∀ S1, mRel α S1 Ln V1 → mFr α S S1 → Φ v S1)) : rX9_set F l0Ax l1Ix l2Ix S Φ := by
  have el0A := el0A.symm
  subst el0A
  have el1I := el1I.symm
  subst el1I
  have el2I := el2I.symm
  subst el2I
  unfold mX9_set at h
  unfold rX9_set
  refine mIf h Iff.rfl (fun c1 h => ?_) (fun c1 h => ?_)
  · obtain ⟨rfl, rfl⟩ := mRW h
    exact k _ R mFr.rf
  · refine mIf h (by rw [show gRow_count S (α l0A) = V.fI l0A 1 from (mg_I (i := l0A) R (mO9 sl0A) rfl 1)]) (fun c2 h => ?_) (fun c2 h => ?_)
    · obtain ⟨rfl, rfl⟩ := mRW h
      exact k _ R mFr.rf
    · refine mGd h (by rw [show S.len (wkAd (gRow_numbers S (α l0A))) = Ln (l0A + 1) from (md_len R (mK9 sl0A) (mg_D (S := S) sl0A rfl))]) (fun c3 h => ?_)
      obtain ⟨V4, eV4, h⟩ := mLt_some h
      refine mU_DI eV4 R (mK9 sl0A) (mg_D (S := S) sl0A rfl) rfl rfl (fun S4 R4 F4 => ?_)
      obtain ⟨rfl, rfl⟩ := mRW h
      exact k _ R4 F4
end
