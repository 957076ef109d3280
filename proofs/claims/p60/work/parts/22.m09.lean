/-! LIFTED BY PROGRAM (lift.py): X2_behind, X2_countBranches, X2_areBranchesOf, X2_followWay, X2_areTwoHalves, X3_fillNear, X4_areUnlikePoints, X4_neighboursOf. -/
section
def mX2_behind_b0 (F : Nat) (rec : Nat → Int32 → Int32 → Int32 → Int32 → Int32 → Int32 → mV → Option Int32) (l2I : Int32) (l3I : Int32) (l4I : Int32) (l5I : Int32) (l6I : Int32) (l7I : Int32) (V : mV) : Option Int32 :=
  (if l5I ≤ l7I then some (l4I) else (mLt (l6I + (1 : Int32)) fun x2 => (if l3I < 0 ∨ 7 ≤ (l3I).toNatClampNeg then none else (if x2 < ((V.rI 29 (l3I).toNatClampNeg) + l5I) then (if x2 < 0 ∨ 22 ≤ (x2).toNatClampNeg then none else (if l2I < (V.rI 31 (x2).toNatClampNeg) then (mLt (l7I + (1 : Int32)) fun x7 => (rec 0 (l2I) (l3I) (l4I) (l5I) (x2) (x7) V)) else some (x2))) else (if l3I < 0 ∨ 7 ≤ (l3I).toNatClampNeg then none else (mLt (V.rI 29 (l3I).toNatClampNeg) fun x9 => (if x9 < 0 ∨ 22 ≤ (x9).toNatClampNeg then none else (if l2I < (V.rI 31 (x9).toNatClampNeg) then (mLt (l7I + (1 : Int32)) fun x12 => (rec 0 (l2I) (l3I) (l4I) (l5I) (x9) (x12) V)) else some (x9)))))))))
def mX2_behind_go (F : Nat) : Nat → Nat → Int32 → Int32 → Int32 → Int32 → Int32 → Int32 → mV → Option Int32
  | 0, _, _, _, _, _, _, _, _ => none
  | k' + 1, lab, l2I, l3I, l4I, l5I, l6I, l7I, V => if lab = 0 then mX2_behind_b0 F (mX2_behind_go F k') l2I l3I l4I l5I l6I l7I V else none
def mX2_behind_s (F : Nat) (rec : Nat → Int32 → Int32 → Int32 → Int32 → Int32 → Int32 → mV → Option Int32) (l1I : Int32) (l2I : Int32) (V : mV) : Option Int32 :=
  (if l1I < 0 ∨ 22 ≤ (l1I).toNatClampNeg then none else (mLt (V.rI 31 (l1I).toNatClampNeg) fun x14 => (if l1I < 0 ∨ 22 ≤ (l1I).toNatClampNeg then none else (if ((x14 * (7 : Int32)) + (V.rI 30 (l1I).toNatClampNeg)) < 0 ∨ 49 ≤ (((x14 * (7 : Int32)) + (V.rI 30 (l1I).toNatClampNeg))).toNatClampNeg then none else (mLt (V.rI 32 (((x14 * (7 : Int32)) + (V.rI 30 (l1I).toNatClampNeg))).toNatClampNeg) fun x17 => (if x14 < 0 ∨ 7 ≤ (x14).toNatClampNeg then none else (mBN (mJ6_bitCount_0f7a4 F ((V.rI 27 (x14).toNatClampNeg))) fun v19 => (rec 0 (l2I) (x14) (x17) (v19) (x17) ((0 : Int32)) V))))))))
def mX2_behind (F : Nat) (l1I : Int32) (l2I : Int32) (V : mV) : Option Int32 := mX2_behind_s F (mX2_behind_go F F) l1I l2I V
set_option maxHeartbeats 4000000 in
set_option maxRecDepth 100000 in
theorem LX2_behind_go {α : Nat → Nat} {F : Nat} {Ln : Nat → Nat} {v : Int32} {Φ : (Int32 → wPS → Prop)} : ∀ k' : Nat, (∀ (l2I : Int32) (l3I : Int32) (l4I : Int32) (l5I : Int32) (l6I : Int32) (l7I : Int32) (S : wPS) (V : mV) , mRel α S Ln V → mX2_behind_go F k' 0 l2I l3I l4I l5I l6I l7I V = some v → (Φ v S) → rX2_behind_go F k' 0 (α 3) l2I l3I l4I l5I l6I l7I S Φ) := by
  intro k'
  induction k' with
  | zero => exact (fun _ _ _ _ _ _ _ _ _ h _ => by cases h)
  | succ k' ih =>
    intro l2I l3I l4I l5I l6I l7I S V R h k
    rw [mX2_behind_go, if_pos rfl] at h
    rw [rX2_behind_go, if_pos rfl]
    unfold mX2_behind_b0 at h
    unfold rX2_behind_b0
    refine mIf h Iff.rfl (fun c1 h => ?_) (fun c1 h => ?_)
    · cases h
      exact k
    · refine mLet h rfl (fun x2 ex2 h => ?_)
      refine mGd h (by rw [show S.len (wkAd (gDrawings_firstPlace S (α 3))) = 7 from (mg_len (i := 29) R (mA13 rfl) (mg_A (t := 29) R rfl rfl))]) (fun c2 h => ?_)
      refine mIf h (by rw [show S.rI (wkAd (gDrawings_firstPlace S (α 3))) (l3I).toNatClampNeg = V.rI 29 (l3I).toNatClampNeg from (mg_rI (i := 29) R (mA13 rfl) (mg_A (t := 29) R rfl rfl) rfl)]) (fun c3 h => ?_) (fun c3 h => ?_)
      · refine mGd h (by rw [show S.len (wkAd (gDrawings_ring S (α 3))) = 22 from (mg_len (i := 31) R (mA13 rfl) (mg_A (t := 31) R rfl rfl))]) (fun c4 h => ?_)
        refine mIf h (by rw [show S.rI (wkAd (gDrawings_ring S (α 3))) (x2).toNatClampNeg = V.rI 31 (x2).toNatClampNeg from (mg_rI (i := 31) R (mA13 rfl) (mg_A (t := 31) R rfl rfl) rfl)]) (fun c5 h => ?_) (fun c5 h => ?_)
        · refine mLet h rfl (fun x7 ex7 h => ?_)
          exact ih _ _ _ _ _ _ _ _ R h k
        · cases h
          exact k
      · refine mGd h (by rw [show S.len (wkAd (gDrawings_firstPlace S (α 3))) = 7 from (mg_len (i := 29) R (mA13 rfl) (mg_A (t := 29) R rfl rfl))]) (fun c6 h => ?_)
        refine mLet h (by rw [show S.rI (wkAd (gDrawings_firstPlace S (α 3))) (l3I).toNatClampNeg = V.rI 29 (l3I).toNatClampNeg from (mg_rI (i := 29) R (mA13 rfl) (mg_A (t := 29) R rfl rfl) rfl)]) (fun x9 ex9 h => ?_)
        refine mGd h (by rw [show S.len (wkAd (gDrawings_ring S (α 3))) = 22 from (mg_len (i := 31) R (mA13 rfl) (mg_A (t := 31) R rfl rfl))]) (fun c7 h => ?_)
        refine mIf h (by rw [show S.rI (wkAd (gDrawings_ring S (α 3))) (x9).toNatClampNeg = V.rI 31 (x9).toNatClampNeg from (mg_rI (i := 31) R (mA13 rfl) (mg_A (t := 31) R rfl rfl) rfl)]) (fun c8 h => ?_) (fun c8 h => ?_)
        · refine mLet h rfl (fun x12 ex12 h => ?_)
          exact ih _ _ _ _ _ _ _ _ R h k
        · cases h
          exact k
set_option maxHeartbeats 4000000 in
set_option maxRecDepth 100000 in
theorem LX2_behind {α : Nat → Nat} {F : Nat} {S : wPS} {Ln : Nat → Nat} {V : mV} {v : Int32} {Φ : (Int32 → wPS → Prop)} {l0Ax : Nat} {l1Ix l1I : Int32} {l2Ix l2I : Int32} (h : mX2_behind F l1I l2I V = some v) (R : mRel α S Ln V) (el0A : l0Ax = α 3) (el1I : l1Ix = l1I) (el2I : l2Ix = l2I) (k : (Φ v S)) : rX2_behind F l0Ax l1Ix l2Ix S Φ := by
  have el0A := el0A.symm
  subst el0A
  have el1I := el1I.symm
  subst el1I
  have el2I := el2I.symm
  subst el2I
  have ih := LX2_behind_go  (α := α) (F := F) (v := v) (Ln := Ln) (Φ := Φ) F
  unfold mX2_behind mX2_behind_s at h
  unfold rX2_behind rX2_behind_s
  refine mGd h (by rw [show S.len (wkAd (gDrawings_ring S (α 3))) = 22 from (mg_len (i := 31) R (mA13 rfl) (mg_A (t := 31) R rfl rfl))]) (fun c9 h => ?_)
  refine mLet h (by rw [show S.rI (wkAd (gDrawings_ring S (α 3))) (l1I).toNatClampNeg = V.rI 31 (l1I).toNatClampNeg from (mg_rI (i := 31) R (mA13 rfl) (mg_A (t := 31) R rfl rfl) rfl)]) (fun x14 ex14 h => ?_)
  refine mGd h (by rw [show S.len (wkAd (gDrawings_owner S (α 3))) = 22 from (mg_len (i := 30) R (mA13 rfl) (mg_A (t := 30) R rfl rfl))]) (fun c10 h => ?_)
  refine mGd h (by rw [show S.rI (wkAd (gDrawings_owner S (α 3))) (l1I).toNatClampNeg = V.rI 30 (l1I).toNatClampNeg from (mg_rI (i := 30) R (mA13 rfl) (mg_A (t := 30) R rfl rfl) rfl), show S.len (wkAd (gDrawings_spot S (α 3))) = 49 from (mg_len (i := 32) R (mA13 rfl) (mg_A (t := 32) R rfl rfl))]) (fun c11 h => ?_)
  refine mLet h (by rw [show S.rI (wkAd (gDrawings_spot S (α 3))) (((x14 * (7 : Int32)) + (S.rI (wkAd (gDrawings_owner S (α 3))) (l1I).toNatClampNeg))).toNatClampNeg = V.rI 32 (((x14 * (7 : Int32)) + (V.rI 30 (l1I).toNatClampNeg))).toNatClampNeg from (mg_rI (i := 32) R (mA13 rfl) (mg_A (t := 32) R rfl rfl) (by rw [show S.rI (wkAd (gDrawings_owner S (α 3))) (l1I).toNatClampNeg = V.rI 30 (l1I).toNatClampNeg from (mg_rI (i := 30) R (mA13 rfl) (mg_A (t := 30) R rfl rfl) rfl)]))]) (fun x17 ex17 h => ?_)
  refine mGd h (by rw [show S.len (wkAd (gDrawings_near S (α 3))) = 7 from (mg_len (i := 27) R (mA13 rfl) (mg_A (t := 27) R rfl rfl))]) (fun c12 h => ?_)
  obtain ⟨v19, hv19, h⟩ := mBN_some h
  refine LJ6_bitCount_0f7a4 hv19 (by rw [show S.rI (wkAd (gDrawings_near S (α 3))) (x14).toNatClampNeg = V.rI 27 (x14).toNatClampNeg from (mg_rI (i := 27) R (mA13 rfl) (mg_A (t := 27) R rfl rfl) rfl)]) ?_
  exact ih _ _ _ _ _ _ _ _ R h k
def mX2_countBranches_b0 (F : Nat) (rec : Nat → Int32 → Int32 → Int32 → mV → Option Int32) (l1I : Int32) (l2I : Int32) (l3I : Int32) (V : mV) : Option Int32 :=
  (if (V.fI 3 8) ≤ l3I then some (l2I) else (if l3I < 0 ∨ 7 ≤ (l3I).toNatClampNeg then none else (mBN (mJ6_bitCount_0f7a4 F ((V.rI 27 (l3I).toNatClampNeg))) fun v3 => (if v3 ≤ l1I then (mLt (l3I + (1 : Int32)) fun x9 => (rec 0 (l1I) (l2I) (x9) V)) else (mLt (l2I + (1 : Int32)) fun x10 => (mLt (l3I + (1 : Int32)) fun x11 => (rec 0 (l1I) (x10) (x11) V)))))))
def mX2_countBranches_go (F : Nat) : Nat → Nat → Int32 → Int32 → Int32 → mV → Option Int32
  | 0, _, _, _, _, _ => none
  | k' + 1, lab, l1I, l2I, l3I, V => if lab = 0 then mX2_countBranches_b0 F (mX2_countBranches_go F k') l1I l2I l3I V else none
def mX2_countBranches_s (F : Nat) (rec : Nat → Int32 → Int32 → Int32 → mV → Option Int32) (l1I : Int32) (V : mV) : Option Int32 :=
  (rec 0 (l1I) ((0 : Int32)) ((0 : Int32)) V)
def mX2_countBranches (F : Nat) (l1I : Int32) (V : mV) : Option Int32 := mX2_countBranches_s F (mX2_countBranches_go F F) l1I V
set_option maxHeartbeats 4000000 in
set_option maxRecDepth 100000 in
theorem LX2_countBranches_go {α : Nat → Nat} {F : Nat} {Ln : Nat → Nat} {v : Int32} {Φ : (Int32 → wPS → Prop)} : ∀ k' : Nat, (∀ (l1I : Int32) (l2I : Int32) (l3I : Int32) (S : wPS) (V : mV) , mRel α S Ln V → mX2_countBranches_go F k' 0 l1I l2I l3I V = some v → (Φ v S) → rX2_countBranches_go F k' 0 (α 3) l1I l2I l3I S Φ) := by
  intro k'
  induction k' with
  | zero => exact (fun _ _ _ _ _ _ h _ => by cases h)
  | succ k' ih =>
    intro l1I l2I l3I S V R h k
    rw [mX2_countBranches_go, if_pos rfl] at h
    rw [rX2_countBranches_go, if_pos rfl]
    unfold mX2_countBranches_b0 at h
    unfold rX2_countBranches_b0
    refine mIf h (by rw [show gDrawings_nodeCount S (α 3) = V.fI 3 8 from (mg_I (i := 3) R (by decide) rfl 8)]) (fun c1 h => ?_) (fun c1 h => ?_)
    · cases h
      exact k
    · refine mGd h (by rw [show S.len (wkAd (gDrawings_near S (α 3))) = 7 from (mg_len (i := 27) R (mA13 rfl) (mg_A (t := 27) R rfl rfl))]) (fun c2 h => ?_)
      obtain ⟨v3, hv3, h⟩ := mBN_some h
      refine LJ6_bitCount_0f7a4 hv3 (by rw [show S.rI (wkAd (gDrawings_near S (α 3))) (l3I).toNatClampNeg = V.rI 27 (l3I).toNatClampNeg from (mg_rI (i := 27) R (mA13 rfl) (mg_A (t := 27) R rfl rfl) rfl)]) ?_
      refine mIf h Iff.rfl (fun c3 h => ?_) (fun c3 h => ?_)
      · refine mLet h rfl (fun x9 ex9 h => ?_)
        exact ih _ _ _ _ _ R h k
      · refine mLet h rfl (fun x10 ex10 h => ?_)
        refine mLet h rfl (fun x11 ex11 h => ?_)
        exact ih _ _ _ _ _ R h k
set_option maxHeartbeats 4000000 in
set_option maxRecDepth 100000 in
theorem LX2_countBranches {α : Nat → Nat} {F : Nat} {S : wPS} {Ln : Nat → Nat} {V : mV} {v : Int32} {Φ : (Int32 → wPS → Prop)} {l0Ax : Nat} {l1Ix l1I : Int32} (h : mX2_countBranches F l1I V = some v) (R : mRel α S Ln V) (el0A : l0Ax = α 3) (el1I : l1Ix = l1I) (k : (Φ v S)) : rX2_countBranches F l0Ax l1Ix S Φ := by
  have el0A := el0A.symm
  subst el0A
  have el1I := el1I.symm
  subst el1I
  have ih := LX2_countBranches_go  (α := α) (F := F) (v := v) (Ln := Ln) (Φ := Φ) F
  unfold mX2_countBranches mX2_countBranches_s at h
  unfold rX2_countBranches rX2_countBranches_s
  exact ih _ _ _ _ _ R h k
def mX2_areBranchesOf_b0 (F : Nat) (rec : Nat → Int32 → Int32 → Int32 → mV → Option Int32) (l1I : Int32) (l2I : Int32) (l3I : Int32) (V : mV) : Option Int32 :=
  (if (V.fI 3 8) ≤ l3I then (mBN (mX2_countBranches F ((2 : Int32)) V) fun v2 => (if l1I = (5 : Int32) then (if v2 = (5 : Int32) then some ((1 : Int32)) else some ((0 : Int32))) else (if v2 = (6 : Int32) then some ((1 : Int32)) else some ((0 : Int32))))) else (if l3I < 0 ∨ 7 ≤ (l3I).toNatClampNeg then none else (mBN (mJ6_bitCount_0f7a4 F ((V.rI 27 (l3I).toNatClampNeg))) fun v11 => (if v11 ≤ (2 : Int32) then (mLt (l3I + (1 : Int32)) fun x17 => (rec 0 (l1I) (l2I) (x17) V)) else (if v11 = l2I then (mLt (l3I + (1 : Int32)) fun x19 => (rec 0 (l1I) (l2I) (x19) V)) else some ((0 : Int32)))))))
def mX2_areBranchesOf_go (F : Nat) : Nat → Nat → Int32 → Int32 → Int32 → mV → Option Int32
  | 0, _, _, _, _, _ => none
  | k' + 1, lab, l1I, l2I, l3I, V => if lab = 0 then mX2_areBranchesOf_b0 F (mX2_areBranchesOf_go F k') l1I l2I l3I V else none
def mX2_areBranchesOf_s (F : Nat) (rec : Nat → Int32 → Int32 → Int32 → mV → Option Int32) (l1I : Int32) (V : mV) : Option Int32 :=
  (if l1I = (5 : Int32) then (rec 0 (l1I) ((4 : Int32)) ((0 : Int32)) V) else (rec 0 (l1I) ((3 : Int32)) ((0 : Int32)) V))
def mX2_areBranchesOf (F : Nat) (l1I : Int32) (V : mV) : Option Int32 := mX2_areBranchesOf_s F (mX2_areBranchesOf_go F F) l1I V
set_option maxHeartbeats 4000000 in
set_option maxRecDepth 100000 in
theorem LX2_areBranchesOf_go {α : Nat → Nat} {F : Nat} {Ln : Nat → Nat} {v : Int32} {Φ : (Int32 → wPS → Prop)} : ∀ k' : Nat, (∀ (l1I : Int32) (l2I : Int32) (l3I : Int32) (S : wPS) (V : mV) , mRel α S Ln V → mX2_areBranchesOf_go F k' 0 l1I l2I l3I V = some v → (Φ v S) → rX2_areBranchesOf_go F k' 0 (α 3) l1I l2I l3I S Φ) := by
  intro k'
  induction k' with
  | zero => exact (fun _ _ _ _ _ _ h _ => by cases h)
  | succ k' ih =>
    intro l1I l2I l3I S V R h k
    rw [mX2_areBranchesOf_go, if_pos rfl] at h
    rw [rX2_areBranchesOf_go, if_pos rfl]
    unfold mX2_areBranchesOf_b0 at h
    unfold rX2_areBranchesOf_b0
    refine mIf h (by rw [show gDrawings_nodeCount S (α 3) = V.fI 3 8 from (mg_I (i := 3) R (by decide) rfl 8)]) (fun c1 h => ?_) (fun c1 h => ?_)
    · obtain ⟨v2, hv2, h⟩ := mBN_some h
      refine LX2_countBranches hv2 R rfl rfl ?_
      refine mIf h Iff.rfl (fun c2 h => ?_) (fun c2 h => ?_)
      · refine mIf h Iff.rfl (fun c3 h => ?_) (fun c3 h => ?_)
        · cases h
          exact k
        · cases h
          exact k
      · refine mIf h Iff.rfl (fun c4 h => ?_) (fun c4 h => ?_)
        · cases h
          exact k
        · cases h
          exact k
    · refine mGd h (by rw [show S.len (wkAd (gDrawings_near S (α 3))) = 7 from (mg_len (i := 27) R (mA13 rfl) (mg_A (t := 27) R rfl rfl))]) (fun c5 h => ?_)
      obtain ⟨v11, hv11, h⟩ := mBN_some h
      refine LJ6_bitCount_0f7a4 hv11 (by rw [show S.rI (wkAd (gDrawings_near S (α 3))) (l3I).toNatClampNeg = V.rI 27 (l3I).toNatClampNeg from (mg_rI (i := 27) R (mA13 rfl) (mg_A (t := 27) R rfl rfl) rfl)]) ?_
      refine mIf h Iff.rfl (fun c6 h => ?_) (fun c6 h => ?_)
      · refine mLet h rfl (fun x17 ex17 h => ?_)
        exact ih _ _ _ _ _ R h k
      · refine mIf h Iff.rfl (fun c7 h => ?_) (fun c7 h => ?_)
        · refine mLet h rfl (fun x19 ex19 h => ?_)
          exact ih _ _ _ _ _ R h k
        · cases h
          exact k
set_option maxHeartbeats 4000000 in
set_option maxRecDepth 100000 in
theorem LX2_areBranchesOf {α : Nat → Nat} {F : Nat} {S : wPS} {Ln : Nat → Nat} {V : mV} {v : Int32} {Φ : (Int32 → wPS → Prop)} {l0Ax : Nat} {l1Ix l1I : Int32} (h : mX2_areBranchesOf F l1I V = some v) (R : mRel α S Ln V) (el0A : l0Ax = α 3) (el1I : l1Ix = l1I) (k : (Φ v S)) : rX2_areBranchesOf F l0Ax l1Ix S Φ := by
  have el0A := el0A.symm
  subst el0A
  have el1I := el1I.symm
  subst el1I
  have ih := LX2_areBranchesOf_go  (α := α) (F := F) (v := v) (Ln := Ln) (Φ := Φ) F
  unfold mX2_areBranchesOf mX2_areBranchesOf_s at h
  unfold rX2_areBranchesOf rX2_areBranchesOf_s
  refine mIf h Iff.rfl (fun c8 h => ?_) (fun c8 h => ?_)
  · exact ih _ _ _ _ _ R h k
  · exact ih _ _ _ _ _ R h k
def mX2_followWay_b0 (F : Nat) (rec : Nat → Int32 → Int32 → Int32 → Int32 → mV → Option (Int32 × mV)) (l1I : Int32) (l3I : Int32) (l4I : Int32) (l5I : Int32) (V : mV) : Option (Int32 × mV) :=
  (if (22 : Int32) ≤ l5I then (if l4I = l1I then some ((0 : Int32), V) else (if l1I < 0 ∨ 7 ≤ (l1I).toNatClampNeg then none else (mBN (mX11_has F ((V.rI 34 (l1I).toNatClampNeg)) (l4I)) fun v4 => (if v4 = 0 then (if l1I < 0 ∨ 7 ≤ (l1I).toNatClampNeg then none else (if l1I < 0 ∨ 7 ≤ (l1I).toNatClampNeg then none else (mLt (mI V 34 (l1I) (((V.rI 34 (l1I).toNatClampNeg) ||| ((1 : Int32) <<< (l4I &&& 31))))) fun V12 => some (l5I, V12)))) else some ((0 : Int32), V))))) else (if l4I < 0 ∨ 7 ≤ (l4I).toNatClampNeg then none else (mBN (mJ6_bitCount_0f7a4 F ((V.rI 27 (l4I).toNatClampNeg))) fun v14 => (if v14 = (2 : Int32) then (if l4I < 0 ∨ 7 ≤ (l4I).toNatClampNeg then none else (mBN (mX11_lowest F (((V.rI 27 (l4I).toNatClampNeg) &&& (((1 : Int32) <<< (l3I &&& 31)) ^^^ (-1 : Int32))))) fun v32 => (mLt (l5I + (1 : Int32)) fun x37 => (rec 0 (l1I) (l4I) (v32) (x37) V)))) else (if l4I = l1I then some ((0 : Int32), V) else (if l1I < 0 ∨ 7 ≤ (l1I).toNatClampNeg then none else (mBN (mX11_has F ((V.rI 34 (l1I).toNatClampNeg)) (l4I)) fun v22 => (if v22 = 0 then (if l1I < 0 ∨ 7 ≤ (l1I).toNatClampNeg then none else (if l1I < 0 ∨ 7 ≤ (l1I).toNatClampNeg then none else (mLt (mI V 34 (l1I) (((V.rI 34 (l1I).toNatClampNeg) ||| ((1 : Int32) <<< (l4I &&& 31))))) fun V30 => some (l5I, V30)))) else some ((0 : Int32), V)))))))))
def mX2_followWay_go (F : Nat) : Nat → Nat → Int32 → Int32 → Int32 → Int32 → mV → Option (Int32 × mV)
  | 0, _, _, _, _, _, _ => none
  | k' + 1, lab, l1I, l3I, l4I, l5I, V => if lab = 0 then mX2_followWay_b0 F (mX2_followWay_go F k') l1I l3I l4I l5I V else none
def mX2_followWay_s (F : Nat) (rec : Nat → Int32 → Int32 → Int32 → Int32 → mV → Option (Int32 × mV)) (l1I : Int32) (l2I : Int32) (V : mV) : Option (Int32 × mV) :=
  (rec 0 (l1I) (l1I) (l2I) ((1 : Int32)) V)
def mX2_followWay (F : Nat) (l1I : Int32) (l2I : Int32) (V : mV) : Option (Int32 × mV) := mX2_followWay_s F (mX2_followWay_go F F) l1I l2I V
set_option maxHeartbeats 4000000 in
set_option maxRecDepth 100000 in
theorem LX2_followWay_go {α : Nat → Nat} {F : Nat} {Ln : Nat → Nat} {v : Int32} {V1 : mV} {Φ : (Int32 → wPS → Prop)} : ∀ k' : Nat, (∀ (l1I : Int32) (l3I : Int32) (l4I : Int32) (l5I : Int32) (S : wPS) (V : mV) , mRel α S Ln V → mX2_followWay_go F k' 0 l1I l3I l4I l5I V = some (v, V1) → (∀ S1, mRel α S1 Ln V1 → mFr α S S1 → Φ v S1) → rX2_followWay_go F k' 0 (α 3) l1I l3I l4I l5I S Φ) := by
  intro k'
  induction k' with
  | zero => exact (fun _ _ _ _ _ _ _ h _ => by cases h)
  | succ k' ih =>
    intro l1I l3I l4I l5I S V R h k
    rw [mX2_followWay_go, if_pos rfl] at h
    rw [rX2_followWay_go, if_pos rfl]
    unfold mX2_followWay_b0 at h
    unfold rX2_followWay_b0
    refine mIf h Iff.rfl (fun c1 h => ?_) (fun c1 h => ?_)
    · refine mIf h Iff.rfl (fun c2 h => ?_) (fun c2 h => ?_)
      · obtain ⟨rfl, rfl⟩ := mRW h
        exact k _ R mFr.rf
      · refine mGd h (by rw [show S.len (wkAd (gDrawings_ways S (α 3))) = 7 from (mg_len (i := 34) R (mA13 rfl) (mg_A (t := 34) R rfl rfl))]) (fun c3 h => ?_)
        obtain ⟨v4, hv4, h⟩ := mBN_some h
        refine LX11_has hv4 (by rw [show S.rI (wkAd (gDrawings_ways S (α 3))) (l1I).toNatClampNeg = V.rI 34 (l1I).toNatClampNeg from (mg_rI (i := 34) R (mA13 rfl) (mg_A (t := 34) R rfl rfl) rfl)]) rfl ?_
        refine mIf h Iff.rfl (fun c4 h => ?_) (fun c4 h => ?_)
        · refine mGd h (by rw [show S.len (wkAd (gDrawings_ways S (α 3))) = 7 from (mg_len (i := 34) R (mA13 rfl) (mg_A (t := 34) R rfl rfl))]) (fun c5 h => ?_)
          refine mGd h (by rw [show S.len (wkAd (gDrawings_ways S (α 3))) = 7 from (mg_len (i := 34) R (mA13 rfl) (mg_A (t := 34) R rfl rfl))]) (fun c6 h => ?_)
          obtain ⟨V12, eV12, h⟩ := mLt_some h
          refine mU_I eV12 R (mA13 rfl) (mg_A (t := 34) R rfl rfl) rfl (by rw [show S.rI (wkAd (gDrawings_ways S (α 3))) (l1I).toNatClampNeg = V.rI 34 (l1I).toNatClampNeg from (mg_rI (i := 34) R (mA13 rfl) (mg_A (t := 34) R rfl rfl) rfl)]) (fun S12 R12 F12 => ?_)
          obtain ⟨rfl, rfl⟩ := mRW h
          exact k _ R12 F12
        · obtain ⟨rfl, rfl⟩ := mRW h
          exact k _ R mFr.rf
    · refine mGd h (by rw [show S.len (wkAd (gDrawings_near S (α 3))) = 7 from (mg_len (i := 27) R (mA13 rfl) (mg_A (t := 27) R rfl rfl))]) (fun c7 h => ?_)
      obtain ⟨v14, hv14, h⟩ := mBN_some h
      refine LJ6_bitCount_0f7a4 hv14 (by rw [show S.rI (wkAd (gDrawings_near S (α 3))) (l4I).toNatClampNeg = V.rI 27 (l4I).toNatClampNeg from (mg_rI (i := 27) R (mA13 rfl) (mg_A (t := 27) R rfl rfl) rfl)]) ?_
      refine mIf h Iff.rfl (fun c8 h => ?_) (fun c8 h => ?_)
      · refine mGd h (by rw [show S.len (wkAd (gDrawings_near S (α 3))) = 7 from (mg_len (i := 27) R (mA13 rfl) (mg_A (t := 27) R rfl rfl))]) (fun c9 h => ?_)
        obtain ⟨v32, hv32, h⟩ := mBN_some h
        refine LX11_lowest hv32 (by rw [show S.rI (wkAd (gDrawings_near S (α 3))) (l4I).toNatClampNeg = V.rI 27 (l4I).toNatClampNeg from (mg_rI (i := 27) R (mA13 rfl) (mg_A (t := 27) R rfl rfl) rfl)]) ?_
        refine mLet h rfl (fun x37 ex37 h => ?_)
        exact ih _ _ _ _ _ _ R h (fun S1 R1 F1 => k S1 R1 F1)
      · refine mIf h Iff.rfl (fun c10 h => ?_) (fun c10 h => ?_)
        · obtain ⟨rfl, rfl⟩ := mRW h
          exact k _ R mFr.rf
        · refine mGd h (by rw [show S.len (wkAd (gDrawings_ways S (α 3))) = 7 from (mg_len (i := 34) R (mA13 rfl) (mg_A (t := 34) R rfl rfl))]) (fun c11 h => ?_)
          obtain ⟨v22, hv22, h⟩ := mBN_some h
          refine LX11_has hv22 (by rw [show S.rI (wkAd (gDrawings_ways S (α 3))) (l1I).toNatClampNeg = V.rI 34 (l1I).toNatClampNeg from (mg_rI (i := 34) R (mA13 rfl) (mg_A (t := 34) R rfl rfl) rfl)]) rfl ?_
          refine mIf h Iff.rfl (fun c12 h => ?_) (fun c12 h => ?_)
          · refine mGd h (by rw [show S.len (wkAd (gDrawings_ways S (α 3))) = 7 from (mg_len (i := 34) R (mA13 rfl) (mg_A (t := 34) R rfl rfl))]) (fun c13 h => ?_)
            refine mGd h (by rw [show S.len (wkAd (gDrawings_ways S (α 3))) = 7 from (mg_len (i := 34) R (mA13 rfl) (mg_A (t := 34) R rfl rfl))]) (fun c14 h => ?_)
            obtain ⟨V30, eV30, h⟩ := mLt_some h
            refine mU_I eV30 R (mA13 rfl) (mg_A (t := 34) R rfl rfl) rfl (by rw [show S.rI (wkAd (gDrawings_ways S (α 3))) (l1I).toNatClampNeg = V.rI 34 (l1I).toNatClampNeg from (mg_rI (i := 34) R (mA13 rfl) (mg_A (t := 34) R rfl rfl) rfl)]) (fun S30 R30 F30 => ?_)
            obtain ⟨rfl, rfl⟩ := mRW h
            exact k _ R30 F30
          · obtain ⟨rfl, rfl⟩ := mRW h
            exact k _ R mFr.rf
set_option maxHeartbeats 4000000 in
set_option maxRecDepth 100000 in
theorem LX2_followWay {α : Nat → Nat} {F : Nat} {S : wPS} {Ln : Nat → Nat} {V V1 : mV} {v : Int32} {Φ : (Int32 → wPS → Prop)} {l0Ax : Nat} {l1Ix l1I : Int32} {l2Ix l2I : Int32} (h : mX2_followWay F l1I l2I V = some (v, V1)) (R : mRel α S Ln V) (el0A : l0Ax = α 3) (el1I : l1Ix = l1I) (el2I : l2Ix = l2I) (k : (∀ S1, mRel α S1 Ln V1 → mFr α S S1 → Φ v S1)) : rX2_followWay F l0Ax l1Ix l2Ix S Φ := by
  have el0A := el0A.symm
  subst el0A
  have el1I := el1I.symm
  subst el1I
  have el2I := el2I.symm
  subst el2I
  have ih := LX2_followWay_go  (α := α) (F := F) (v := v) (Ln := Ln) (Φ := Φ) (V1 := V1) F
  unfold mX2_followWay mX2_followWay_s at h
  unfold rX2_followWay rX2_followWay_s
  exact ih _ _ _ _ _ _ R h (fun S1 R1 F1 => k S1 R1 F1)
def mX2_areTwoHalves_b0 (F : Nat) (rec : Nat → Int32 → Int32 → Int32 → mV → Option Int32) (l1I : Int32) (l2I : Int32) (l3I : Int32) (V : mV) : Option Int32 :=
  (if (V.fI 3 8) ≤ l3I then (rec 1 (l1I) (l2I) ((0 : Int32)) V) else (if l3I < 0 ∨ 7 ≤ (l3I).toNatClampNeg then none else (if (V.rI 34 (l3I).toNatClampNeg) = 0 then (mLt (l3I + (1 : Int32)) fun x4 => (rec 0 (l1I) (l2I) (x4) V)) else (mLt (l2I ||| ((1 : Int32) <<< (l3I &&& 31))) fun x5 => (if l3I < 0 ∨ 7 ≤ (l3I).toNatClampNeg then none else (mLt (V.rI 34 (l3I).toNatClampNeg) fun x7 => (mLt (l3I + (1 : Int32)) fun x8 => (rec 0 (x7) (x5) (x8) V))))))))
def mX2_areTwoHalves_b1 (F : Nat) (rec : Nat → Int32 → Int32 → Int32 → mV → Option Int32) (l1I : Int32) (l2I : Int32) (l3I : Int32) (V : mV) : Option Int32 :=
  (if (V.fI 3 8) ≤ l3I then (mBN (mJ6_bitCount_0f7a4 F (l1I)) fun v10 => (if v10 = (3 : Int32) then some ((1 : Int32)) else some ((0 : Int32)))) else (mBN (mX11_has F (l1I) (l3I)) fun v16 => (if v16 = 0 then (mLt (l2I &&& (l1I ^^^ (-1 : Int32))) fun x22 => (if l3I < 0 ∨ 7 ≤ (l3I).toNatClampNeg then none else (if ((V.rI 34 (l3I).toNatClampNeg) &&& x22) = 0 then (mLt (l3I + (1 : Int32)) fun x25 => (rec 1 (l1I) (l2I) (x25) V)) else some ((0 : Int32))))) else (if l3I < 0 ∨ 7 ≤ (l3I).toNatClampNeg then none else (if ((V.rI 34 (l3I).toNatClampNeg) &&& l1I) = 0 then (mLt (l3I + (1 : Int32)) fun x28 => (rec 1 (l1I) (l2I) (x28) V)) else some ((0 : Int32)))))))
def mX2_areTwoHalves_go (F : Nat) : Nat → Nat → Int32 → Int32 → Int32 → mV → Option Int32
  | 0, _, _, _, _, _ => none
  | k' + 1, lab, l1I, l2I, l3I, V => if lab = 0 then mX2_areTwoHalves_b0 F (mX2_areTwoHalves_go F k') l1I l2I l3I V else if lab = 1 then mX2_areTwoHalves_b1 F (mX2_areTwoHalves_go F k') l1I l2I l3I V else none
def mX2_areTwoHalves_s (F : Nat) (rec : Nat → Int32 → Int32 → Int32 → mV → Option Int32) (V : mV) : Option Int32 :=
  (rec 0 ((0 : Int32)) ((0 : Int32)) ((0 : Int32)) V)
def mX2_areTwoHalves (F : Nat) (V : mV) : Option Int32 := mX2_areTwoHalves_s F (mX2_areTwoHalves_go F F) V
set_option maxHeartbeats 4000000 in
set_option maxRecDepth 100000 in
theorem LX2_areTwoHalves_go {α : Nat → Nat} {F : Nat} {Ln : Nat → Nat} {v : Int32} {Φ : (Int32 → wPS → Prop)} : ∀ k' : Nat, (∀ (l1I : Int32) (l2I : Int32) (l3I : Int32) (S : wPS) (V : mV) , mRel α S Ln V → mX2_areTwoHalves_go F k' 0 l1I l2I l3I V = some v → (Φ v S) → rX2_areTwoHalves_go F k' 0 (α 3) l1I l2I l3I S Φ) ∧ (∀ (l1I : Int32) (l2I : Int32) (l3I : Int32) (S : wPS) (V : mV) , mRel α S Ln V → mX2_areTwoHalves_go F k' 1 l1I l2I l3I V = some v → (Φ v S) → rX2_areTwoHalves_go F k' 1 (α 3) l1I l2I l3I S Φ) := by
  intro k'
  induction k' with
  | zero => exact ⟨(fun _ _ _ _ _ _ h _ => by cases h), (fun _ _ _ _ _ _ h _ => by cases h)⟩
  | succ k' ih =>
    refine ⟨?_, ?_⟩
    · intro l1I l2I l3I S V R h k
      rw [mX2_areTwoHalves_go, if_pos rfl] at h
      rw [rX2_areTwoHalves_go, if_pos rfl]
      unfold mX2_areTwoHalves_b0 at h
      unfold rX2_areTwoHalves_b0
      refine mIf h (by rw [show gDrawings_nodeCount S (α 3) = V.fI 3 8 from (mg_I (i := 3) R (by decide) rfl 8)]) (fun c1 h => ?_) (fun c1 h => ?_)
      · exact ih.2 _ _ _ _ _ R h k
      · refine mGd h (by rw [show S.len (wkAd (gDrawings_ways S (α 3))) = 7 from (mg_len (i := 34) R (mA13 rfl) (mg_A (t := 34) R rfl rfl))]) (fun c2 h => ?_)
        refine mIf h (by rw [show S.rI (wkAd (gDrawings_ways S (α 3))) (l3I).toNatClampNeg = V.rI 34 (l3I).toNatClampNeg from (mg_rI (i := 34) R (mA13 rfl) (mg_A (t := 34) R rfl rfl) rfl)]) (fun c3 h => ?_) (fun c3 h => ?_)
        · refine mLet h rfl (fun x4 ex4 h => ?_)
          exact ih.1 _ _ _ _ _ R h k
        · refine mLet h rfl (fun x5 ex5 h => ?_)
          refine mGd h (by rw [show S.len (wkAd (gDrawings_ways S (α 3))) = 7 from (mg_len (i := 34) R (mA13 rfl) (mg_A (t := 34) R rfl rfl))]) (fun c4 h => ?_)
          refine mLet h (by rw [show S.rI (wkAd (gDrawings_ways S (α 3))) (l3I).toNatClampNeg = V.rI 34 (l3I).toNatClampNeg from (mg_rI (i := 34) R (mA13 rfl) (mg_A (t := 34) R rfl rfl) rfl)]) (fun x7 ex7 h => ?_)
          refine mLet h rfl (fun x8 ex8 h => ?_)
          exact ih.1 _ _ _ _ _ R h k
    · intro l1I l2I l3I S V R h k
      rw [mX2_areTwoHalves_go, if_neg (by decide), if_pos rfl] at h
      rw [rX2_areTwoHalves_go, if_neg (by decide), if_pos rfl]
      unfold mX2_areTwoHalves_b1 at h
      unfold rX2_areTwoHalves_b1
      refine mIf h (by rw [show gDrawings_nodeCount S (α 3) = V.fI 3 8 from (mg_I (i := 3) R (by decide) rfl 8)]) (fun c5 h => ?_) (fun c5 h => ?_)
      · obtain ⟨v10, hv10, h⟩ := mBN_some h
        refine LJ6_bitCount_0f7a4 hv10 rfl ?_
        refine mIf h Iff.rfl (fun c6 h => ?_) (fun c6 h => ?_)
        · cases h
          exact k
        · cases h
          exact k
      · obtain ⟨v16, hv16, h⟩ := mBN_some h
        refine LX11_has hv16 rfl rfl ?_
        refine mIf h Iff.rfl (fun c7 h => ?_) (fun c7 h => ?_)
        · refine mLet h rfl (fun x22 ex22 h => ?_)
          refine mGd h (by rw [show S.len (wkAd (gDrawings_ways S (α 3))) = 7 from (mg_len (i := 34) R (mA13 rfl) (mg_A (t := 34) R rfl rfl))]) (fun c8 h => ?_)
          refine mIf h (by rw [show S.rI (wkAd (gDrawings_ways S (α 3))) (l3I).toNatClampNeg = V.rI 34 (l3I).toNatClampNeg from (mg_rI (i := 34) R (mA13 rfl) (mg_A (t := 34) R rfl rfl) rfl)]) (fun c9 h => ?_) (fun c9 h => ?_)
          · refine mLet h rfl (fun x25 ex25 h => ?_)
            exact ih.2 _ _ _ _ _ R h k
          · cases h
            exact k
        · refine mGd h (by rw [show S.len (wkAd (gDrawings_ways S (α 3))) = 7 from (mg_len (i := 34) R (mA13 rfl) (mg_A (t := 34) R rfl rfl))]) (fun c10 h => ?_)
          refine mIf h (by rw [show S.rI (wkAd (gDrawings_ways S (α 3))) (l3I).toNatClampNeg = V.rI 34 (l3I).toNatClampNeg from (mg_rI (i := 34) R (mA13 rfl) (mg_A (t := 34) R rfl rfl) rfl)]) (fun c11 h => ?_) (fun c11 h => ?_)
          · refine mLet h rfl (fun x28 ex28 h => ?_)
            exact ih.2 _ _ _ _ _ R h k
          · cases h
            exact k
set_option maxHeartbeats 4000000 in
set_option maxRecDepth 100000 in
theorem LX2_areTwoHalves {α : Nat → Nat} {F : Nat} {S : wPS} {Ln : Nat → Nat} {V : mV} {v : Int32} {Φ : (Int32 → wPS → Prop)} {l0Ax : Nat} (h : mX2_areTwoHalves F V = some v) (R : mRel α S Ln V) (el0A : l0Ax = α 3) (k : (Φ v S)) : rX2_areTwoHalves F l0Ax S Φ := by
  have el0A := el0A.symm
  subst el0A
  have ih := LX2_areTwoHalves_go  (α := α) (F := F) (v := v) (Ln := Ln) (Φ := Φ) F
  unfold mX2_areTwoHalves mX2_areTwoHalves_s at h
  unfold rX2_areTwoHalves rX2_areTwoHalves_s
  exact ih.1 _ _ _ _ _ R h k
def mX3_fillNear_b0 (F : Nat) (rec : Nat → Nat → Nat → Int32 → Int32 → mV → Option (Unit × mV)) (l0A : Nat) (l1A : Nat) (l2I : Int32) (l3I : Int32) (V : mV) : Option (Unit × mV) :=
  (if (V.fI l0A 6) ≤ l3I then some ((), V) else (mBN (mX11_has F (l2I) (l3I)) fun v2 => (if v2 = 0 then (mLt (l3I + (1 : Int32)) fun x8 => (rec 0 l0A l1A (l2I) (x8) V)) else (mBN (mX3_at F l0A (l3I) ((0 : Int32)) V) fun v9 => (if v9 < 0 ∨ mLen l1A ≤ (v9).toNatClampNeg then none else (mBN (mX3_at F l0A (l3I) ((1 : Int32)) V) fun v15 => (if v9 < 0 ∨ mLen l1A ≤ (v9).toNatClampNeg then none else (mLt (mI V l1A (v9) (((V.rI l1A (v9).toNatClampNeg) ||| ((1 : Int32) <<< (v15 &&& 31))))) fun V21 => (mBN (mX3_at F l0A (l3I) ((1 : Int32)) V21) fun v22 => (if v22 < 0 ∨ mLen l1A ≤ (v22).toNatClampNeg then none else (mBN (mX3_at F l0A (l3I) ((0 : Int32)) V21) fun v28 => (if v22 < 0 ∨ mLen l1A ≤ (v22).toNatClampNeg then none else (mLt (mI V21 l1A (v22) (((V21.rI l1A (v22).toNatClampNeg) ||| ((1 : Int32) <<< (v28 &&& 31))))) fun V34 => (mLt (l3I + (1 : Int32)) fun x35 => (rec 0 l0A l1A (l2I) (x35) V34)))))))))))))))
def mX3_fillNear_go (F : Nat) : Nat → Nat → Nat → Nat → Int32 → Int32 → mV → Option (Unit × mV)
  | 0, _, _, _, _, _, _ => none
  | k' + 1, lab, l0A, l1A, l2I, l3I, V => if lab = 0 then mX3_fillNear_b0 F (mX3_fillNear_go F k') l0A l1A l2I l3I V else none
def mX3_fillNear_s (F : Nat) (rec : Nat → Nat → Nat → Int32 → Int32 → mV → Option (Unit × mV)) (l0A : Nat) (l1A : Nat) (l2I : Int32) (V : mV) : Option (Unit × mV) :=
  (mBW (mJ7_fill_53178 F l1A ((0 : Int32)) V) fun v36 V37 => (rec 0 l0A l1A (l2I) ((0 : Int32)) V37))
def mX3_fillNear (F : Nat) (l0A : Nat) (l1A : Nat) (l2I : Int32) (V : mV) : Option (Unit × mV) := mX3_fillNear_s F (mX3_fillNear_go F F) l0A l1A l2I V
set_option maxHeartbeats 4000000 in
set_option maxRecDepth 100000 in
theorem LX3_fillNear_go {α : Nat → Nat} {F : Nat} {Ln : Nat → Nat} {v : Unit} {V1 : mV} {Φ : (Unit → wPS → Prop)} : ∀ k' : Nat, (∀ (l0A : Nat) (l1A : Nat) (l2I : Int32) (l3I : Int32) (S : wPS) (V : mV) , mRel α S Ln V → mK l0A = 3 → mK l1A = 13 → mX3_fillNear_go F k' 0 l0A l1A l2I l3I V = some (v, V1) → (∀ S1, mRel α S1 Ln V1 → mFr α S S1 → Φ v S1) → rX3_fillNear_go F k' 0 (α l0A) (α l1A) l2I l3I S Φ) := by
  intro k'
  induction k' with
  | zero => exact (fun _ _ _ _ _ _ _ _ _ h _ => by cases h)
  | succ k' ih =>
    intro l0A l1A l2I l3I S V R sl0A sl1A h k
    rw [mX3_fillNear_go, if_pos rfl] at h
    rw [rX3_fillNear_go, if_pos rfl]
    unfold mX3_fillNear_b0 at h
    unfold rX3_fillNear_b0
    refine mIf h (by rw [show gEntry_itemCount S (α l0A) = V.fI l0A 6 from (mg_I (i := l0A) R (mO3 sl0A) rfl 6)]) (fun c1 h => ?_) (fun c1 h => ?_)
    · obtain ⟨rfl, rfl⟩ := mRW h
      exact k _ R mFr.rf
    · obtain ⟨v2, hv2, h⟩ := mBN_some h
      refine LX11_has hv2 rfl rfl ?_
      refine mIf h Iff.rfl (fun c2 h => ?_) (fun c2 h => ?_)
      · refine mLet h rfl (fun x8 ex8 h => ?_)
        exact ih _ _ _ _ _ _ R sl0A sl1A h (fun S1 R1 F1 => k S1 R1 F1)
      · obtain ⟨v9, hv9, h⟩ := mBN_some h
        refine LX3_at hv9 R sl0A rfl rfl rfl ?_
        refine mGd h (by rw [show S.len (α l1A) = mLen l1A from (mg_len R (mA13 sl1A) rfl)]) (fun c3 h => ?_)
        obtain ⟨v15, hv15, h⟩ := mBN_some h
        refine LX3_at hv15 R sl0A rfl rfl rfl ?_
        refine mGd h (by rw [show S.len (α l1A) = mLen l1A from (mg_len R (mA13 sl1A) rfl)]) (fun c4 h => ?_)
        obtain ⟨V21, eV21, h⟩ := mLt_some h
        refine mU_I eV21 R (mA13 sl1A) rfl rfl (by rw [show S.rI (α l1A) (v9).toNatClampNeg = V.rI l1A (v9).toNatClampNeg from (mg_rI (i := l1A) R (mA13 sl1A) rfl rfl)]) (fun S21 R21 F21 => ?_)
        obtain ⟨v22, hv22, h⟩ := mBN_some h
        refine LX3_at hv22 R21 sl0A rfl rfl rfl ?_
        refine mGd h (by rw [show S21.len (α l1A) = mLen l1A from (mg_len R21 (mA13 sl1A) rfl)]) (fun c5 h => ?_)
        obtain ⟨v28, hv28, h⟩ := mBN_some h
        refine LX3_at hv28 R21 sl0A rfl rfl rfl ?_
        refine mGd h (by rw [show S21.len (α l1A) = mLen l1A from (mg_len R21 (mA13 sl1A) rfl)]) (fun c6 h => ?_)
        obtain ⟨V34, eV34, h⟩ := mLt_some h
        refine mU_I eV34 R21 (mA13 sl1A) rfl rfl (by rw [show S21.rI (α l1A) (v22).toNatClampNeg = V21.rI l1A (v22).toNatClampNeg from (mg_rI (i := l1A) R21 (mA13 sl1A) rfl rfl)]) (fun S34 R34 F34 => ?_)
        refine mLet h rfl (fun x35 ex35 h => ?_)
        exact ih _ _ _ _ _ _ R34 sl0A sl1A h (fun S1 R1 F1 => k S1 R1 (F21.tr (F34.tr F1)))
set_option maxHeartbeats 4000000 in
set_option maxRecDepth 100000 in
theorem LX3_fillNear {α : Nat → Nat} {F : Nat} {S : wPS} {Ln : Nat → Nat} {V V1 : mV} {v : Unit} {Φ : (Unit → wPS → Prop)} {l0Ax : Nat} {l0A : Nat} {l1Ax : Nat} {l1A : Nat} {l2Ix l2I : Int32} (h : mX3_fillNear F l0A l1A l2I V = some (v, V1)) (R : mRel α S Ln V) (sl0A : mK l0A = 3) (sl1A : mK l1A = 13) (el0A : l0Ax = α l0A) (el1A : l1Ax = α l1A) (el2I : l2Ix = l2I) (k : (∀ S1, mRel α S1 Ln V1 → mFr α S S1 → Φ v S1)) : rX3_fillNear F l0Ax l1Ax l2Ix S Φ := by
  have el0A := el0A.symm
  subst el0A
  have el1A := el1A.symm
  subst el1A
  have el2I := el2I.symm
  subst el2I
  have ih := LX3_fillNear_go  (α := α) (F := F) (v := v) (Ln := Ln) (Φ := Φ) (V1 := V1) F
  unfold mX3_fillNear mX3_fillNear_s at h
  unfold rX3_fillNear rX3_fillNear_s
  obtain ⟨v36, V37, hv36, h⟩ := mBW_some h
  refine LJ7_fill_53178 hv36 R sl1A rfl rfl (fun S37 R37 F37 => ?_)
  exact ih _ _ _ _ _ _ R37 sl0A sl1A h (fun S1 R1 F1 => k S1 R1 (F37.tr F1))
def mX4_areUnlikePoints_b0 (F : Nat) (rec : Nat → Nat → Int32 → Int32 → Int32 → mV → Option Int32) (l0A : Nat) (l1I : Int32) (l2I : Int32) (l3I : Int32) (V : mV) : Option Int32 :=
  (if l1I < l3I then some ((1 : Int32)) else (if (Int32.ofNat (mLen l0A)) ≤ l3I then some ((1 : Int32)) else (if l3I < 0 ∨ mLen l0A ≤ (l3I).toNatClampNeg then none else (mBN (mX4_isWithin F ((V.rI l0A (l3I).toNatClampNeg)) ((0 : Int32)) (l1I)) fun v4 => (if v4 = 0 then some ((0 : Int32)) else (if l3I < 0 ∨ mLen l0A ≤ (l3I).toNatClampNeg then none else (mBN (mX11_has F (l2I) ((V.rI l0A (l3I).toNatClampNeg))) fun v11 => (if v11 = 0 then (if l3I < 0 ∨ mLen l0A ≤ (l3I).toNatClampNeg then none else (mLt (l2I ||| ((1 : Int32) <<< ((V.rI l0A (l3I).toNatClampNeg) &&& 31))) fun x18 => (mLt (l3I + (1 : Int32)) fun x19 => (rec 0 l0A (l1I) (x18) (x19) V)))) else some ((0 : Int32))))))))))
def mX4_areUnlikePoints_go (F : Nat) : Nat → Nat → Nat → Int32 → Int32 → Int32 → mV → Option Int32
  | 0, _, _, _, _, _, _ => none
  | k' + 1, lab, l0A, l1I, l2I, l3I, V => if lab = 0 then mX4_areUnlikePoints_b0 F (mX4_areUnlikePoints_go F k') l0A l1I l2I l3I V else none
def mX4_areUnlikePoints_s (F : Nat) (rec : Nat → Nat → Int32 → Int32 → Int32 → mV → Option Int32) (l0A : Nat) (l1I : Int32) (V : mV) : Option Int32 :=
  (rec 0 l0A (l1I) ((0 : Int32)) ((0 : Int32)) V)
def mX4_areUnlikePoints (F : Nat) (l0A : Nat) (l1I : Int32) (V : mV) : Option Int32 := mX4_areUnlikePoints_s F (mX4_areUnlikePoints_go F F) l0A l1I V
set_option maxHeartbeats 4000000 in
set_option maxRecDepth 100000 in
theorem LX4_areUnlikePoints_go {α : Nat → Nat} {F : Nat} {Ln : Nat → Nat} {v : Int32} {Φ : (Int32 → wPS → Prop)} : ∀ k' : Nat, (∀ (l0A : Nat) (l1I : Int32) (l2I : Int32) (l3I : Int32) (S : wPS) (V : mV) , mRel α S Ln V → mK l0A = 13 → mX4_areUnlikePoints_go F k' 0 l0A l1I l2I l3I V = some v → (Φ v S) → rX4_areUnlikePoints_go F k' 0 (α l0A) l1I l2I l3I S Φ) := by
  intro k'
  induction k' with
  | zero => exact (fun _ _ _ _ _ _ _ _ h _ => by cases h)
  | succ k' ih =>
    intro l0A l1I l2I l3I S V R sl0A h k
    rw [mX4_areUnlikePoints_go, if_pos rfl] at h
    rw [rX4_areUnlikePoints_go, if_pos rfl]
    unfold mX4_areUnlikePoints_b0 at h
    unfold rX4_areUnlikePoints_b0
    refine mIf h Iff.rfl (fun c1 h => ?_) (fun c1 h => ?_)
    · cases h
      exact k
    · refine mIf h (by rw [show S.len (α l0A) = mLen l0A from (mg_len R (mA13 sl0A) rfl)]) (fun c2 h => ?_) (fun c2 h => ?_)
      · cases h
        exact k
      · refine mGd h (by rw [show S.len (α l0A) = mLen l0A from (mg_len R (mA13 sl0A) rfl)]) (fun c3 h => ?_)
        obtain ⟨v4, hv4, h⟩ := mBN_some h
        refine LX4_isWithin hv4 (by rw [show S.rI (α l0A) (l3I).toNatClampNeg = V.rI l0A (l3I).toNatClampNeg from (mg_rI (i := l0A) R (mA13 sl0A) rfl rfl)]) rfl rfl ?_
        refine mIf h Iff.rfl (fun c4 h => ?_) (fun c4 h => ?_)
        · cases h
          exact k
        · refine mGd h (by rw [show S.len (α l0A) = mLen l0A from (mg_len R (mA13 sl0A) rfl)]) (fun c5 h => ?_)
          obtain ⟨v11, hv11, h⟩ := mBN_some h
          refine LX11_has hv11 rfl (by rw [show S.rI (α l0A) (l3I).toNatClampNeg = V.rI l0A (l3I).toNatClampNeg from (mg_rI (i := l0A) R (mA13 sl0A) rfl rfl)]) ?_
          refine mIf h Iff.rfl (fun c6 h => ?_) (fun c6 h => ?_)
          · refine mGd h (by rw [show S.len (α l0A) = mLen l0A from (mg_len R (mA13 sl0A) rfl)]) (fun c7 h => ?_)
            refine mLet h (by rw [show S.rI (α l0A) (l3I).toNatClampNeg = V.rI l0A (l3I).toNatClampNeg from (mg_rI (i := l0A) R (mA13 sl0A) rfl rfl)]) (fun x18 ex18 h => ?_)
            refine mLet h rfl (fun x19 ex19 h => ?_)
            exact ih _ _ _ _ _ _ R sl0A h k
          · cases h
            exact k
set_option maxHeartbeats 4000000 in
set_option maxRecDepth 100000 in
theorem LX4_areUnlikePoints {α : Nat → Nat} {F : Nat} {S : wPS} {Ln : Nat → Nat} {V : mV} {v : Int32} {Φ : (Int32 → wPS → Prop)} {l0Ax : Nat} {l0A : Nat} {l1Ix l1I : Int32} (h : mX4_areUnlikePoints F l0A l1I V = some v) (R : mRel α S Ln V) (sl0A : mK l0A = 13) (el0A : l0Ax = α l0A) (el1I : l1Ix = l1I) (k : (Φ v S)) : rX4_areUnlikePoints F l0Ax l1Ix S Φ := by
  have el0A := el0A.symm
  subst el0A
  have el1I := el1I.symm
  subst el1I
  have ih := LX4_areUnlikePoints_go  (α := α) (F := F) (v := v) (Ln := Ln) (Φ := Φ) F
  unfold mX4_areUnlikePoints mX4_areUnlikePoints_s at h
  unfold rX4_areUnlikePoints rX4_areUnlikePoints_s
  exact ih _ _ _ _ _ _ R sl0A h k
def mX4_neighboursOf_b0 (F : Nat) (rec : Nat → Int32 → Int32 → Int32 → mV → Option Int32) (l1I : Int32) (l2I : Int32) (l3I : Int32) (V : mV) : Option Int32 :=
  (if (Int32.ofNat (9)) ≤ l3I then some (l2I) else (mBN (mX11_has F (l1I) (l3I)) fun v2 => (if v2 = 0 then (mLt (l3I + (1 : Int32)) fun x8 => (rec 0 (l1I) (l2I) (x8) V)) else (if l3I < 0 ∨ 9 ≤ (l3I).toNatClampNeg then none else (mLt (l2I ||| (V.rI 18 (l3I).toNatClampNeg)) fun x10 => (mLt (l3I + (1 : Int32)) fun x11 => (rec 0 (l1I) (x10) (x11) V)))))))
def mX4_neighboursOf_go (F : Nat) : Nat → Nat → Int32 → Int32 → Int32 → mV → Option Int32
  | 0, _, _, _, _, _ => none
  | k' + 1, lab, l1I, l2I, l3I, V => if lab = 0 then mX4_neighboursOf_b0 F (mX4_neighboursOf_go F k') l1I l2I l3I V else none
def mX4_neighboursOf_s (F : Nat) (rec : Nat → Int32 → Int32 → Int32 → mV → Option Int32) (l1I : Int32) (V : mV) : Option Int32 :=
  (rec 0 (l1I) ((0 : Int32)) ((0 : Int32)) V)
def mX4_neighboursOf (F : Nat) (l1I : Int32) (V : mV) : Option Int32 := mX4_neighboursOf_s F (mX4_neighboursOf_go F F) l1I V
set_option maxHeartbeats 4000000 in
set_option maxRecDepth 100000 in
theorem LX4_neighboursOf_go {α : Nat → Nat} {F : Nat} {Ln : Nat → Nat} {v : Int32} {Φ : (Int32 → wPS → Prop)} : ∀ k' : Nat, (∀ (l1I : Int32) (l2I : Int32) (l3I : Int32) (S : wPS) (V : mV) , mRel α S Ln V → mX4_neighboursOf_go F k' 0 l1I l2I l3I V = some v → (Φ v S) → rX4_neighboursOf_go F k' 0 (α 1) l1I l2I l3I S Φ) := by
  intro k'
  induction k' with
  | zero => exact (fun _ _ _ _ _ _ h _ => by cases h)
  | succ k' ih =>
    intro l1I l2I l3I S V R h k
    rw [mX4_neighboursOf_go, if_pos rfl] at h
    rw [rX4_neighboursOf_go, if_pos rfl]
    unfold mX4_neighboursOf_b0 at h
    unfold rX4_neighboursOf_b0
    refine mIf h (by rw [show S.len (wkAd (gHouse_near S (α 1))) = 9 from (mg_len (i := 18) R (mA13 rfl) (mg_A (t := 18) R rfl rfl))]) (fun c1 h => ?_) (fun c1 h => ?_)
    · cases h
      exact k
    · obtain ⟨v2, hv2, h⟩ := mBN_some h
      refine LX11_has hv2 rfl rfl ?_
      refine mIf h Iff.rfl (fun c2 h => ?_) (fun c2 h => ?_)
      · refine mLet h rfl (fun x8 ex8 h => ?_)
        exact ih _ _ _ _ _ R h k
      · refine mGd h (by rw [show S.len (wkAd (gHouse_near S (α 1))) = 9 from (mg_len (i := 18) R (mA13 rfl) (mg_A (t := 18) R rfl rfl))]) (fun c3 h => ?_)
        refine mLet h (by rw [show S.rI (wkAd (gHouse_near S (α 1))) (l3I).toNatClampNeg = V.rI 18 (l3I).toNatClampNeg from (mg_rI (i := 18) R (mA13 rfl) (mg_A (t := 18) R rfl rfl) rfl)]) (fun x10 ex10 h => ?_)
        refine mLet h rfl (fun x11 ex11 h => ?_)
        exact ih _ _ _ _ _ R h k
set_option maxHeartbeats 4000000 in
set_option maxRecDepth 100000 in
theorem LX4_neighboursOf {α : Nat → Nat} {F : Nat} {S : wPS} {Ln : Nat → Nat} {V : mV} {v : Int32} {Φ : (Int32 → wPS → Prop)} {l0Ax : Nat} {l1Ix l1I : Int32} (h : mX4_neighboursOf F l1I V = some v) (R : mRel α S Ln V) (el0A : l0Ax = α 1) (el1I : l1Ix = l1I) (k : (Φ v S)) : rX4_neighboursOf F l0Ax l1Ix S Φ := by
  have el0A := el0A.symm
  subst el0A
  have el1I := el1I.symm
  subst el1I
  have ih := LX4_neighboursOf_go  (α := α) (F := F) (v := v) (Ln := Ln) (Φ := Φ) F
  unfold mX4_neighboursOf mX4_neighboursOf_s at h
  unfold rX4_neighboursOf rX4_neighboursOf_s
  exact ih _ _ _ _ _ R h k
end
