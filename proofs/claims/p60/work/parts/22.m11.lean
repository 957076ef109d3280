/-! LIFTED BY PROGRAM (lift.py): X5_judgeWeights, X6_findLetters, X6_goAlike, X6_judgeLetters, X6_greatestWeight, X6_withWeight, X6_drawnTo. -/
section
def mX5_judgeWeights_b0 (F : Nat) (rec : Nat → (Nat → Nat) → Nat → Nat → Int32 → Int32 → Int64 → Int64 → Int32 → Int32 → mV → Option Int32) (Ln : Nat → Nat) (l1A : Nat) (l2A : Nat) (l3I : Int32) (l4I : Int32) (V : mV) : Option Int32 :=
  (if (V.fI l1A 1) ≤ l4I then (rec 2 Ln l1A l2A (l3I) 0 ((0 : Int64)) 0 ((0 : Int32)) 0 V) else (rec 1 Ln l1A l2A (l3I) (l4I) 0 ((0 : Int64)) 0 ((0 : Int32)) V))
def mX5_judgeWeights_b1 (F : Nat) (rec : Nat → (Nat → Nat) → Nat → Nat → Int32 → Int32 → Int64 → Int64 → Int32 → Int32 → mV → Option Int32) (Ln : Nat → Nat) (l1A : Nat) (l2A : Nat) (l3I : Int32) (l4I : Int32) (l5J : Int64) (l7I : Int32) (V : mV) : Option Int32 :=
  (if l3I ≤ l7I then (if 0 ≤ (lg_cmp l5J (0 : Int64)) then (mLt (l4I + (1 : Int32)) fun x4 => (rec 0 Ln l1A l2A (l3I) (x4) 0 0 0 0 V)) else some ((3 : Int32))) else (mBN (mX5_times F l1A (l7I) (l4I) V) fun v5 => (mBN (mX9_at F Ln l2A ((l7I + (1 : Int32))) V) fun v10 => (mLt (l5J + ((Int32.toInt64 v5) * (Int32.toInt64 v10))) fun x15 => (mLt (l7I + (1 : Int32)) fun x16 => (rec 1 Ln l1A l2A (l3I) (l4I) 0 (x15) 0 (x16) V))))))
def mX5_judgeWeights_b2 (F : Nat) (rec : Nat → (Nat → Nat) → Nat → Nat → Int32 → Int32 → Int64 → Int64 → Int32 → Int32 → mV → Option Int32) (Ln : Nat → Nat) (l1A : Nat) (l2A : Nat) (l3I : Int32) (l4J : Int64) (l6I : Int32) (V : mV) : Option Int32 :=
  (if l3I ≤ l6I then (mBN (mX9_at F Ln l2A ((0 : Int32)) V) fun v18 => (if (lg_cmp l4J (-(Int32.toInt64 v18))) = 0 then some ((0 : Int32)) else some ((4 : Int32)))) else (mBN (mX5_limitOf F l1A (l6I) V) fun v24 => (mBN (mX9_at F Ln l2A ((l6I + (1 : Int32))) V) fun v29 => (mLt (l4J + ((Int32.toInt64 v24) * (Int32.toInt64 v29))) fun x34 => (mLt (l6I + (1 : Int32)) fun x35 => (rec 2 Ln l1A l2A (l3I) 0 (x34) 0 (x35) 0 V))))))
def mX5_judgeWeights_go (F : Nat) : Nat → Nat → (Nat → Nat) → Nat → Nat → Int32 → Int32 → Int64 → Int64 → Int32 → Int32 → mV → Option Int32
  | 0, _, _, _, _, _, _, _, _, _, _, _ => none
  | k' + 1, lab, Ln, l1A, l2A, l3I, l4I, l4J, l5J, l6I, l7I, V => if lab = 0 then mX5_judgeWeights_b0 F (mX5_judgeWeights_go F k') Ln l1A l2A l3I l4I V else if lab = 1 then mX5_judgeWeights_b1 F (mX5_judgeWeights_go F k') Ln l1A l2A l3I l4I l5J l7I V else if lab = 2 then mX5_judgeWeights_b2 F (mX5_judgeWeights_go F k') Ln l1A l2A l3I l4J l6I V else none
def mX5_judgeWeights_s (F : Nat) (rec : Nat → (Nat → Nat) → Nat → Nat → Int32 → Int32 → Int64 → Int64 → Int32 → Int32 → mV → Option Int32) (Ln : Nat → Nat) (l1A : Nat) (l2A : Nat) (V : mV) : Option Int32 :=
  (mLt ((V.fI l1A 6) + (1 : Int32)) fun x36 => (if (V.fI l2A 1) = (x36 + (1 : Int32)) then (mBN (mX9_at F Ln l2A ((0 : Int32)) V) fun v38 => (if (1 : Int32) ≤ v38 then (mBN (mX9_liesWithin F Ln l2A ((1 : Int32)) ((0 : Int32)) ((2147483647 : Int32)) V) fun v44 => (if v44 = 0 then some ((2 : Int32)) else (rec 0 Ln l1A l2A (x36) ((0 : Int32)) 0 0 0 0 V))) else some ((1 : Int32)))) else some ((1 : Int32))))
def mX5_judgeWeights (F : Nat) (Ln : Nat → Nat) (l1A : Nat) (l2A : Nat) (V : mV) : Option Int32 := mX5_judgeWeights_s F (mX5_judgeWeights_go F F) Ln l1A l2A V
set_option maxHeartbeats 4000000 in
set_option maxRecDepth 100000 in
theorem LX5_judgeWeights_go {α : Nat → Nat} {F : Nat} {v : Int32} {Φ : (Int32 → wPS → Prop)} : ∀ k' : Nat, (∀ (l1A : Nat) (l2A : Nat) (l3I : Int32) (l4I : Int32) (S : wPS) (V : mV) (Ln : Nat → Nat) , mRel α S Ln V → mK l1A = 3 → mK l2A = 9 → mX5_judgeWeights_go F k' 0 Ln l1A l2A l3I l4I 0 0 0 0 V = some v → (Φ v S) → rX5_judgeWeights_go F k' 0 (α l1A) (α l2A) l3I l4I 0 0 0 0 S Φ) ∧ (∀ (l1A : Nat) (l2A : Nat) (l3I : Int32) (l4I : Int32) (l5J : Int64) (l7I : Int32) (S : wPS) (V : mV) (Ln : Nat → Nat) , mRel α S Ln V → mK l1A = 3 → mK l2A = 9 → mX5_judgeWeights_go F k' 1 Ln l1A l2A l3I l4I 0 l5J 0 l7I V = some v → (Φ v S) → rX5_judgeWeights_go F k' 1 (α l1A) (α l2A) l3I l4I 0 l5J 0 l7I S Φ) ∧ (∀ (l1A : Nat) (l2A : Nat) (l3I : Int32) (l4J : Int64) (l6I : Int32) (S : wPS) (V : mV) (Ln : Nat → Nat) , mRel α S Ln V → mK l1A = 3 → mK l2A = 9 → mX5_judgeWeights_go F k' 2 Ln l1A l2A l3I 0 l4J 0 l6I 0 V = some v → (Φ v S) → rX5_judgeWeights_go F k' 2 (α l1A) (α l2A) l3I 0 l4J 0 l6I 0 S Φ) := by
  intro k'
  induction k' with
  | zero => exact ⟨(fun _ _ _ _ _ _ _ _ _ _ h _ => by cases h), (fun _ _ _ _ _ _ _ _ _ _ _ _ h _ => by cases h), (fun _ _ _ _ _ _ _ _ _ _ _ h _ => by cases h)⟩
  | succ k' ih =>
    refine ⟨?_, ?_, ?_⟩
    · intro l1A l2A l3I l4I S V Ln R sl1A sl2A h k
      rw [mX5_judgeWeights_go, if_pos rfl] at h
      rw [rX5_judgeWeights_go, if_pos rfl]
      unfold mX5_judgeWeights_b0 at h
      unfold rX5_judgeWeights_b0
      refine mIf h (by rw [show gEntry_size S (α l1A) = V.fI l1A 1 from (mg_I (i := l1A) R (mO3 sl1A) rfl 1)]) (fun c1 h => ?_) (fun c1 h => ?_)
      · exact ih.2.2 _ _ _ _ _ _ _ _ R sl1A sl2A h k
      · exact ih.2.1 _ _ _ _ _ _ _ _ _ R sl1A sl2A h k
    · intro l1A l2A l3I l4I l5J l7I S V Ln R sl1A sl2A h k
      rw [mX5_judgeWeights_go, if_neg (by decide), if_pos rfl] at h
      rw [rX5_judgeWeights_go, if_neg (by decide), if_pos rfl]
      unfold mX5_judgeWeights_b1 at h
      unfold rX5_judgeWeights_b1
      refine mIf h Iff.rfl (fun c2 h => ?_) (fun c2 h => ?_)
      · refine mIf h Iff.rfl (fun c3 h => ?_) (fun c3 h => ?_)
        · refine mLet h rfl (fun x4 ex4 h => ?_)
          exact ih.1 _ _ _ _ _ _ _ R sl1A sl2A h k
        · cases h
          exact k
      · obtain ⟨v5, hv5, h⟩ := mBN_some h
        refine LX5_times hv5 R sl1A rfl rfl rfl ?_
        obtain ⟨v10, hv10, h⟩ := mBN_some h
        refine LX9_at hv10 R sl2A rfl rfl ?_
        refine mLet h rfl (fun x15 ex15 h => ?_)
        refine mLet h rfl (fun x16 ex16 h => ?_)
        exact ih.2.1 _ _ _ _ _ _ _ _ _ R sl1A sl2A h k
    · intro l1A l2A l3I l4J l6I S V Ln R sl1A sl2A h k
      rw [mX5_judgeWeights_go, if_neg (by decide), if_neg (by decide), if_pos rfl] at h
      rw [rX5_judgeWeights_go, if_neg (by decide), if_neg (by decide), if_pos rfl]
      unfold mX5_judgeWeights_b2 at h
      unfold rX5_judgeWeights_b2
      refine mIf h Iff.rfl (fun c4 h => ?_) (fun c4 h => ?_)
      · obtain ⟨v18, hv18, h⟩ := mBN_some h
        refine LX9_at hv18 R sl2A rfl rfl ?_
        refine mIf h Iff.rfl (fun c5 h => ?_) (fun c5 h => ?_)
        · cases h
          exact k
        · cases h
          exact k
      · obtain ⟨v24, hv24, h⟩ := mBN_some h
        refine LX5_limitOf hv24 R sl1A rfl rfl ?_
        obtain ⟨v29, hv29, h⟩ := mBN_some h
        refine LX9_at hv29 R sl2A rfl rfl ?_
        refine mLet h rfl (fun x34 ex34 h => ?_)
        refine mLet h rfl (fun x35 ex35 h => ?_)
        exact ih.2.2 _ _ _ _ _ _ _ _ R sl1A sl2A h k
set_option maxHeartbeats 4000000 in
set_option maxRecDepth 100000 in
theorem LX5_judgeWeights {α : Nat → Nat} {F : Nat} {S : wPS} {Ln : Nat → Nat} {V : mV} {v : Int32} {Φ : (Int32 → wPS → Prop)} {l0Ax : Nat} {l1Ax : Nat} {l1A : Nat} {l2Ax : Nat} {l2A : Nat} (h : mX5_judgeWeights F Ln l1A l2A V = some v) (R : mRel α S Ln V) (sl1A : mK l1A = 3) (sl2A : mK l2A = 9) (el0A : l0Ax = α 4) (el1A : l1Ax = α l1A) (el2A : l2Ax = α l2A) (k : (Φ v S)) : rX5_judgeWeights F l0Ax l1Ax l2Ax S Φ := by
  have el0A := el0A.symm
  subst el0A
  have el1A := el1A.symm
  subst el1A
  have el2A := el2A.symm
  subst el2A
  have ih := LX5_judgeWeights_go  (α := α) (F := F) (v := v) (Φ := Φ) F
  unfold mX5_judgeWeights mX5_judgeWeights_s at h
  unfold rX5_judgeWeights rX5_judgeWeights_s
  refine mLet h (by rw [show gEntry_itemCount S (α l1A) = V.fI l1A 6 from (mg_I (i := l1A) R (mO3 sl1A) rfl 6)]) (fun x36 ex36 h => ?_)
  refine mIf h (by rw [show gRow_count S (α l2A) = V.fI l2A 1 from (mg_I (i := l2A) R (mO9 sl2A) rfl 1)]) (fun c6 h => ?_) (fun c6 h => ?_)
  · obtain ⟨v38, hv38, h⟩ := mBN_some h
    refine LX9_at hv38 R sl2A rfl rfl ?_
    refine mIf h Iff.rfl (fun c7 h => ?_) (fun c7 h => ?_)
    · obtain ⟨v44, hv44, h⟩ := mBN_some h
      refine LX9_liesWithin hv44 R sl2A rfl rfl rfl rfl ?_
      refine mIf h Iff.rfl (fun c8 h => ?_) (fun c8 h => ?_)
      · cases h
        exact k
      · exact ih.1 _ _ _ _ _ _ _ R sl1A sl2A h k
    · cases h
      exact k
  · cases h
    exact k
def mX6_findLetters_b0 (F : Nat) (rec : Nat → Int32 → Int32 → Int32 → mV → Option (Unit × mV)) (l2I : Int32) (V : mV) : Option (Unit × mV) :=
  (if (8 : Int32) < l2I then some ((), V) else (rec 1 (l2I) ((0 : Int32)) 0 V))
def mX6_findLetters_b1 (F : Nat) (rec : Nat → Int32 → Int32 → Int32 → mV → Option (Unit × mV)) (l2I : Int32) (l3I : Int32) (V : mV) : Option (Unit × mV) :=
  (if (V.fI 8 7) ≤ l3I then (mLt (l2I + (1 : Int32)) fun x3 => (rec 0 (x3) 0 0 V)) else (rec 2 (l2I) (l3I) ((0 : Int32)) V))
def mX6_findLetters_b2 (F : Nat) (rec : Nat → Int32 → Int32 → Int32 → mV → Option (Unit × mV)) (l2I : Int32) (l3I : Int32) (l4I : Int32) (V : mV) : Option (Unit × mV) :=
  (if (V.fI 8 7) ≤ l4I then (mLt (l3I + (1 : Int32)) fun x5 => (rec 1 (l2I) (x5) 0 V)) else (mBN (mX6_lettersAt F (l3I) (l4I) V) fun v6 => (if 0 ≤ v6 then (mLt (l4I + (1 : Int32)) fun x12 => (rec 2 (l2I) (l3I) (x12) V)) else (mBN (mX6_isToldBy F (l3I) (l4I) (l2I) V) fun v13 => (if v13 = 0 then (mLt (l4I + (1 : Int32)) fun x19 => (rec 2 (l2I) (l3I) (x19) V)) else (if ((l3I * (8 : Int32)) + l4I) < 0 ∨ 64 ≤ (((l3I * (8 : Int32)) + l4I)).toNatClampNeg then none else (mLt (mI V 87 (((l3I * (8 : Int32)) + l4I)) (l2I)) fun V21 => (mLt (l4I + (1 : Int32)) fun x22 => (rec 2 (l2I) (l3I) (x22) V21)))))))))
def mX6_findLetters_go (F : Nat) : Nat → Nat → Int32 → Int32 → Int32 → mV → Option (Unit × mV)
  | 0, _, _, _, _, _ => none
  | k' + 1, lab, l2I, l3I, l4I, V => if lab = 0 then mX6_findLetters_b0 F (mX6_findLetters_go F k') l2I V else if lab = 1 then mX6_findLetters_b1 F (mX6_findLetters_go F k') l2I l3I V else if lab = 2 then mX6_findLetters_b2 F (mX6_findLetters_go F k') l2I l3I l4I V else none
def mX6_findLetters_s (F : Nat) (rec : Nat → Int32 → Int32 → Int32 → mV → Option (Unit × mV)) (l1A : Nat) (V : mV) : Option (Unit × mV) :=
  (mBW (mX6_loadStates F l1A V) fun v23 V24 => (mBW (mJ7_fill_53178 F 87 ((-1 : Int32)) V24) fun v28 V29 => (rec 0 ((0 : Int32)) 0 0 V29)))
def mX6_findLetters (F : Nat) (l1A : Nat) (V : mV) : Option (Unit × mV) := mX6_findLetters_s F (mX6_findLetters_go F F) l1A V
set_option maxHeartbeats 4000000 in
set_option maxRecDepth 100000 in
theorem LX6_findLetters_go {α : Nat → Nat} {F : Nat} {Ln : Nat → Nat} {v : Unit} {V1 : mV} {Φ : (Unit → wPS → Prop)} : ∀ k' : Nat, (∀ (l2I : Int32) (S : wPS) (V : mV) , mRel α S Ln V → mX6_findLetters_go F k' 0 l2I 0 0 V = some (v, V1) → (∀ S1, mRel α S1 Ln V1 → mFr α S S1 → Φ v S1) → rX6_findLetters_go F k' 0 (α 8) l2I 0 0 S Φ) ∧ (∀ (l2I : Int32) (l3I : Int32) (S : wPS) (V : mV) , mRel α S Ln V → mX6_findLetters_go F k' 1 l2I l3I 0 V = some (v, V1) → (∀ S1, mRel α S1 Ln V1 → mFr α S S1 → Φ v S1) → rX6_findLetters_go F k' 1 (α 8) l2I l3I 0 S Φ) ∧ (∀ (l2I : Int32) (l3I : Int32) (l4I : Int32) (S : wPS) (V : mV) , mRel α S Ln V → mX6_findLetters_go F k' 2 l2I l3I l4I V = some (v, V1) → (∀ S1, mRel α S1 Ln V1 → mFr α S S1 → Φ v S1) → rX6_findLetters_go F k' 2 (α 8) l2I l3I l4I S Φ) := by
  intro k'
  induction k' with
  | zero => exact ⟨(fun _ _ _ _ h _ => by cases h), (fun _ _ _ _ _ h _ => by cases h), (fun _ _ _ _ _ _ h _ => by cases h)⟩
  | succ k' ih =>
    refine ⟨?_, ?_, ?_⟩
    · intro l2I S V R h k
      rw [mX6_findLetters_go, if_pos rfl] at h
      rw [rX6_findLetters_go, if_pos rfl]
      unfold mX6_findLetters_b0 at h
      unfold rX6_findLetters_b0
      refine mIf h Iff.rfl (fun c1 h => ?_) (fun c1 h => ?_)
      · obtain ⟨rfl, rfl⟩ := mRW h
        exact k _ R mFr.rf
      · exact ih.2.1 _ _ _ _ R h (fun S1 R1 F1 => k S1 R1 F1)
    · intro l2I l3I S V R h k
      rw [mX6_findLetters_go, if_neg (by decide), if_pos rfl] at h
      rw [rX6_findLetters_go, if_neg (by decide), if_pos rfl]
      unfold mX6_findLetters_b1 at h
      unfold rX6_findLetters_b1
      refine mIf h (by rw [show gMachines_size S (α 8) = V.fI 8 7 from (mg_I (i := 8) R (by decide) rfl 7)]) (fun c2 h => ?_) (fun c2 h => ?_)
      · refine mLet h rfl (fun x3 ex3 h => ?_)
        exact ih.1 _ _ _ R h (fun S1 R1 F1 => k S1 R1 F1)
      · exact ih.2.2 _ _ _ _ _ R h (fun S1 R1 F1 => k S1 R1 F1)
    · intro l2I l3I l4I S V R h k
      rw [mX6_findLetters_go, if_neg (by decide), if_neg (by decide), if_pos rfl] at h
      rw [rX6_findLetters_go, if_neg (by decide), if_neg (by decide), if_pos rfl]
      unfold mX6_findLetters_b2 at h
      unfold rX6_findLetters_b2
      refine mIf h (by rw [show gMachines_size S (α 8) = V.fI 8 7 from (mg_I (i := 8) R (by decide) rfl 7)]) (fun c3 h => ?_) (fun c3 h => ?_)
      · refine mLet h rfl (fun x5 ex5 h => ?_)
        exact ih.2.1 _ _ _ _ R h (fun S1 R1 F1 => k S1 R1 F1)
      · obtain ⟨v6, hv6, h⟩ := mBN_some h
        refine LX6_lettersAt hv6 R rfl rfl rfl ?_
        refine mIf h Iff.rfl (fun c4 h => ?_) (fun c4 h => ?_)
        · refine mLet h rfl (fun x12 ex12 h => ?_)
          exact ih.2.2 _ _ _ _ _ R h (fun S1 R1 F1 => k S1 R1 F1)
        · obtain ⟨v13, hv13, h⟩ := mBN_some h
          refine LX6_isToldBy hv13 R rfl rfl rfl rfl ?_
          refine mIf h Iff.rfl (fun c5 h => ?_) (fun c5 h => ?_)
          · refine mLet h rfl (fun x19 ex19 h => ?_)
            exact ih.2.2 _ _ _ _ _ R h (fun S1 R1 F1 => k S1 R1 F1)
          · refine mGd h (by rw [show S.len (wkAd (gMachines_letters S (α 8))) = 64 from (mg_len (i := 87) R (mA13 rfl) (mg_A (t := 87) R rfl rfl))]) (fun c6 h => ?_)
            obtain ⟨V21, eV21, h⟩ := mLt_some h
            refine mU_I eV21 R (mA13 rfl) (mg_A (t := 87) R rfl rfl) rfl rfl (fun S21 R21 F21 => ?_)
            refine mLet h rfl (fun x22 ex22 h => ?_)
            exact ih.2.2 _ _ _ _ _ R21 h (fun S1 R1 F1 => k S1 R1 (F21.tr F1))
set_option maxHeartbeats 4000000 in
set_option maxRecDepth 100000 in
theorem LX6_findLetters {α : Nat → Nat} {F : Nat} {S : wPS} {Ln : Nat → Nat} {V V1 : mV} {v : Unit} {Φ : (Unit → wPS → Prop)} {l0Ax : Nat} {l1Ax : Nat} {l1A : Nat} (h : mX6_findLetters F l1A V = some (v, V1)) (R : mRel α S Ln V) (sl1A : mK l1A = 3) (el0A : l0Ax = α 8) (el1A : l1Ax = α l1A) (k : (∀ S1, mRel α S1 Ln V1 → mFr α S S1 → Φ v S1)) : rX6_findLetters F l0Ax l1Ax S Φ := by
  have el0A := el0A.symm
  subst el0A
  have el1A := el1A.symm
  subst el1A
  have ih := LX6_findLetters_go  (α := α) (F := F) (v := v) (Ln := Ln) (Φ := Φ) (V1 := V1) F
  unfold mX6_findLetters mX6_findLetters_s at h
  unfold rX6_findLetters rX6_findLetters_s
  obtain ⟨v23, V24, hv23, h⟩ := mBW_some h
  refine LX6_loadStates hv23 R sl1A rfl rfl (fun S24 R24 F24 => ?_)
  obtain ⟨v28, V29, hv28, h⟩ := mBW_some h
  refine LJ7_fill_53178 hv28 R24 rfl (mg_A (t := 87) R24 rfl rfl) rfl (fun S29 R29 F29 => ?_)
  exact ih.1 _ _ _ R29 h (fun S1 R1 F1 => k S1 R1 (F24.tr (F29.tr F1)))
def mX6_goAlike (F : Nat) (Ln : Nat → Nat) (l1A : Nat) (l2I : Int32) (l3I : Int32) (V : mV) : Option Int32 :=
  (if l2I < 0 ∨ 8 ≤ (l2I).toNatClampNeg then none else (mBN (mX9_at F Ln l1A ((V.rI 84 (l2I).toNatClampNeg)) V) fun v2 => (if l3I < 0 ∨ 8 ≤ (l3I).toNatClampNeg then none else (mBN (mX9_at F Ln l1A ((V.rI 84 (l3I).toNatClampNeg)) V) fun v8 => (if v2 = v8 then (if l2I < 0 ∨ 8 ≤ (l2I).toNatClampNeg then none else (mBN (mX9_at F Ln l1A ((V.rI 85 (l2I).toNatClampNeg)) V) fun v15 => (if l3I < 0 ∨ 8 ≤ (l3I).toNatClampNeg then none else (mBN (mX9_at F Ln l1A ((V.rI 85 (l3I).toNatClampNeg)) V) fun v21 => (if v15 = v21 then some ((1 : Int32)) else some ((0 : Int32))))))) else some ((0 : Int32)))))))
set_option maxHeartbeats 4000000 in
set_option maxRecDepth 100000 in
theorem LX6_goAlike {α : Nat → Nat} {F : Nat} {S : wPS} {Ln : Nat → Nat} {V : mV} {v : Int32} {Φ : (Int32 → wPS → Prop)} {l0Ax : Nat} {l1Ax : Nat} {l1A : Nat} {l2Ix l2I : Int32} {l3Ix l3I : Int32} (h : mX6_goAlike F Ln l1A l2I l3I V = some v) (R : mRel α S Ln V) (sl1A : mK l1A = 9) (el0A : l0Ax = α 8) (el1A : l1Ax = α l1A) (el2I : l2Ix = l2I) (el3I : l3Ix = l3I) (k : (Φ v S)) : rX6_goAlike F l0Ax l1Ax l2Ix l3Ix S Φ := by
  have el0A := el0A.symm
  subst el0A
  have el1A := el1A.symm
  subst el1A
  have el2I := el2I.symm
  subst el2I
  have el3I := el3I.symm
  subst el3I
  unfold mX6_goAlike at h
  unfold rX6_goAlike
  refine mGd h (by rw [show S.len (wkAd (gMachines_byZero S (α 8))) = 8 from (mg_len (i := 84) R (mA13 rfl) (mg_A (t := 84) R rfl rfl))]) (fun c1 h => ?_)
  obtain ⟨v2, hv2, h⟩ := mBN_some h
  refine LX9_at hv2 R sl1A rfl (by rw [show S.rI (wkAd (gMachines_byZero S (α 8))) (l2I).toNatClampNeg = V.rI 84 (l2I).toNatClampNeg from (mg_rI (i := 84) R (mA13 rfl) (mg_A (t := 84) R rfl rfl) rfl)]) ?_
  refine mGd h (by rw [show S.len (wkAd (gMachines_byZero S (α 8))) = 8 from (mg_len (i := 84) R (mA13 rfl) (mg_A (t := 84) R rfl rfl))]) (fun c2 h => ?_)
  obtain ⟨v8, hv8, h⟩ := mBN_some h
  refine LX9_at hv8 R sl1A rfl (by rw [show S.rI (wkAd (gMachines_byZero S (α 8))) (l3I).toNatClampNeg = V.rI 84 (l3I).toNatClampNeg from (mg_rI (i := 84) R (mA13 rfl) (mg_A (t := 84) R rfl rfl) rfl)]) ?_
  refine mIf h Iff.rfl (fun c3 h => ?_) (fun c3 h => ?_)
  · refine mGd h (by rw [show S.len (wkAd (gMachines_byOne S (α 8))) = 8 from (mg_len (i := 85) R (mA13 rfl) (mg_A (t := 85) R rfl rfl))]) (fun c4 h => ?_)
    obtain ⟨v15, hv15, h⟩ := mBN_some h
    refine LX9_at hv15 R sl1A rfl (by rw [show S.rI (wkAd (gMachines_byOne S (α 8))) (l2I).toNatClampNeg = V.rI 85 (l2I).toNatClampNeg from (mg_rI (i := 85) R (mA13 rfl) (mg_A (t := 85) R rfl rfl) rfl)]) ?_
    refine mGd h (by rw [show S.len (wkAd (gMachines_byOne S (α 8))) = 8 from (mg_len (i := 85) R (mA13 rfl) (mg_A (t := 85) R rfl rfl))]) (fun c5 h => ?_)
    obtain ⟨v21, hv21, h⟩ := mBN_some h
    refine LX9_at hv21 R sl1A rfl (by rw [show S.rI (wkAd (gMachines_byOne S (α 8))) (l3I).toNatClampNeg = V.rI 85 (l3I).toNatClampNeg from (mg_rI (i := 85) R (mA13 rfl) (mg_A (t := 85) R rfl rfl) rfl)]) ?_
    refine mIf h Iff.rfl (fun c6 h => ?_) (fun c6 h => ?_)
    · cases h
      exact k
    · cases h
      exact k
  · cases h
    exact k
def mX6_judgeLetters_b0 (F : Nat) (rec : Nat → (Nat → Nat) → Nat → Int32 → Int32 → Int32 → Int32 → mV → Option (Int32 × mV)) (Ln : Nat → Nat) (l2A : Nat) (l3I : Int32) (l4I : Int32) (l5I : Int32) (V : mV) : Option (Int32 × mV) :=
  (if (V.fI l2A 1) ≤ l5I then (if l3I < 0 ∨ 8 ≤ (l3I).toNatClampNeg then none else (if l4I < 0 ∨ 8 ≤ (l4I).toNatClampNeg then none else (if (V.rI 86 (l3I).toNatClampNeg) = (V.rI 86 (l4I).toNatClampNeg) then some ((2 : Int32), V) else some ((0 : Int32), V)))) else (mBN (mX9_at F Ln l2A (l5I) V) fun v5 => (if v5 = 0 then (rec 1 Ln l2A (l3I) (l4I) (l5I) ((1 : Int32)) V) else (rec 1 Ln l2A (l3I) (l4I) (l5I) ((0 : Int32)) V))))
def mX6_judgeLetters_b1 (F : Nat) (rec : Nat → (Nat → Nat) → Nat → Int32 → Int32 → Int32 → Int32 → mV → Option (Int32 × mV)) (Ln : Nat → Nat) (l2A : Nat) (l3I : Int32) (l4I : Int32) (l5I : Int32) (s0I : Int32) (V : mV) : Option (Int32 × mV) :=
  (if s0I = 0 then (if l3I < 0 ∨ 8 ≤ (l3I).toNatClampNeg then none else (mLt (V.rI 85 (l3I).toNatClampNeg) fun x13 => (if s0I = 0 then (if l4I < 0 ∨ 8 ≤ (l4I).toNatClampNeg then none else (mLt (V.rI 85 (l4I).toNatClampNeg) fun x16 => (mLt (l5I + (1 : Int32)) fun x17 => (rec 0 Ln l2A (x13) (x16) (x17) 0 V)))) else (if l4I < 0 ∨ 8 ≤ (l4I).toNatClampNeg then none else (mLt (V.rI 84 (l4I).toNatClampNeg) fun x19 => (mLt (l5I + (1 : Int32)) fun x20 => (rec 0 Ln l2A (x13) (x19) (x20) 0 V))))))) else (if l3I < 0 ∨ 8 ≤ (l3I).toNatClampNeg then none else (mLt (V.rI 84 (l3I).toNatClampNeg) fun x22 => (if s0I = 0 then (if l4I < 0 ∨ 8 ≤ (l4I).toNatClampNeg then none else (mLt (V.rI 85 (l4I).toNatClampNeg) fun x25 => (mLt (l5I + (1 : Int32)) fun x26 => (rec 0 Ln l2A (x22) (x25) (x26) 0 V)))) else (if l4I < 0 ∨ 8 ≤ (l4I).toNatClampNeg then none else (mLt (V.rI 84 (l4I).toNatClampNeg) fun x28 => (mLt (l5I + (1 : Int32)) fun x29 => (rec 0 Ln l2A (x22) (x28) (x29) 0 V))))))))
def mX6_judgeLetters_go (F : Nat) : Nat → Nat → (Nat → Nat) → Nat → Int32 → Int32 → Int32 → Int32 → mV → Option (Int32 × mV)
  | 0, _, _, _, _, _, _, _, _ => none
  | k' + 1, lab, Ln, l2A, l3I, l4I, l5I, s0I, V => if lab = 0 then mX6_judgeLetters_b0 F (mX6_judgeLetters_go F k') Ln l2A l3I l4I l5I V else if lab = 1 then mX6_judgeLetters_b1 F (mX6_judgeLetters_go F k') Ln l2A l3I l4I l5I s0I V else none
def mX6_judgeLetters_s (F : Nat) (rec : Nat → (Nat → Nat) → Nat → Int32 → Int32 → Int32 → Int32 → mV → Option (Int32 × mV)) (Ln : Nat → Nat) (l1A : Nat) (l2A : Nat) (V : mV) : Option (Int32 × mV) :=
  (mBW (mX6_loadStates F l1A V) fun v30 V31 => (mBN (mX9_liesWithin F Ln l2A ((0 : Int32)) ((0 : Int32)) ((1 : Int32)) V31) fun v35 => (if v35 = 0 then some ((1 : Int32), V31) else (mBN (mX3_nodeAsked F l1A V31) fun v41 => (rec 0 Ln l2A ((0 : Int32)) (v41) ((0 : Int32)) 0 V31)))))
def mX6_judgeLetters (F : Nat) (Ln : Nat → Nat) (l1A : Nat) (l2A : Nat) (V : mV) : Option (Int32 × mV) := mX6_judgeLetters_s F (mX6_judgeLetters_go F F) Ln l1A l2A V
set_option maxHeartbeats 4000000 in
set_option maxRecDepth 100000 in
theorem LX6_judgeLetters_go {α : Nat → Nat} {F : Nat} {v : Int32} {V1 : mV} {Φ : (Int32 → wPS → Prop)} : ∀ k' : Nat, (∀ (l2A : Nat) (l3I : Int32) (l4I : Int32) (l5I : Int32) (S : wPS) (V : mV) (Ln : Nat → Nat) , mRel α S Ln V → mK l2A = 9 → mX6_judgeLetters_go F k' 0 Ln l2A l3I l4I l5I 0 V = some (v, V1) → (∀ S1, mRel α S1 Ln V1 → mFr α S S1 → Φ v S1) → rX6_judgeLetters_go F k' 0 (α 8) (α l2A) l3I l4I l5I 0 S Φ) ∧ (∀ (l2A : Nat) (l3I : Int32) (l4I : Int32) (l5I : Int32) (s0I : Int32) (S : wPS) (V : mV) (Ln : Nat → Nat) , mRel α S Ln V → mK l2A = 9 → mX6_judgeLetters_go F k' 1 Ln l2A l3I l4I l5I s0I V = some (v, V1) → (∀ S1, mRel α S1 Ln V1 → mFr α S S1 → Φ v S1) → rX6_judgeLetters_go F k' 1 (α 8) (α l2A) l3I l4I l5I s0I S Φ) := by
  intro k'
  induction k' with
  | zero => exact ⟨(fun _ _ _ _ _ _ _ _ _ h _ => by cases h), (fun _ _ _ _ _ _ _ _ _ _ h _ => by cases h)⟩
  | succ k' ih =>
    refine ⟨?_, ?_⟩
    · intro l2A l3I l4I l5I S V Ln R sl2A h k
      rw [mX6_judgeLetters_go, if_pos rfl] at h
      rw [rX6_judgeLetters_go, if_pos rfl]
      unfold mX6_judgeLetters_b0 at h
      unfold rX6_judgeLetters_b0
      refine mIf h (by rw [show gRow_count S (α l2A) = V.fI l2A 1 from (mg_I (i := l2A) R (mO9 sl2A) rfl 1)]) (fun c1 h => ?_) (fun c1 h => ?_)
      · refine mGd h (by rw [show S.len (wkAd (gMachines_finals S (α 8))) = 8 from (mg_len (i := 86) R (mA13 rfl) (mg_A (t := 86) R rfl rfl))]) (fun c2 h => ?_)
        refine mGd h (by rw [show S.len (wkAd (gMachines_finals S (α 8))) = 8 from (mg_len (i := 86) R (mA13 rfl) (mg_A (t := 86) R rfl rfl))]) (fun c3 h => ?_)
        refine mIf h (by rw [show S.rI (wkAd (gMachines_finals S (α 8))) (l3I).toNatClampNeg = V.rI 86 (l3I).toNatClampNeg from (mg_rI (i := 86) R (mA13 rfl) (mg_A (t := 86) R rfl rfl) rfl), show S.rI (wkAd (gMachines_finals S (α 8))) (l4I).toNatClampNeg = V.rI 86 (l4I).toNatClampNeg from (mg_rI (i := 86) R (mA13 rfl) (mg_A (t := 86) R rfl rfl) rfl)]) (fun c4 h => ?_) (fun c4 h => ?_)
        · obtain ⟨rfl, rfl⟩ := mRW h
          exact k _ R mFr.rf
        · obtain ⟨rfl, rfl⟩ := mRW h
          exact k _ R mFr.rf
      · obtain ⟨v5, hv5, h⟩ := mBN_some h
        refine LX9_at hv5 R sl2A rfl rfl ?_
        refine mIf h Iff.rfl (fun c5 h => ?_) (fun c5 h => ?_)
        · exact ih.2 _ _ _ _ _ _ _ _ R sl2A h (fun S1 R1 F1 => k S1 R1 F1)
        · exact ih.2 _ _ _ _ _ _ _ _ R sl2A h (fun S1 R1 F1 => k S1 R1 F1)
    · intro l2A l3I l4I l5I s0I S V Ln R sl2A h k
      rw [mX6_judgeLetters_go, if_neg (by decide), if_pos rfl] at h
      rw [rX6_judgeLetters_go, if_neg (by decide), if_pos rfl]
      unfold mX6_judgeLetters_b1 at h
      unfold rX6_judgeLetters_b1
      refine mIf h Iff.rfl (fun c6 h => ?_) (fun c6 h => ?_)
      · refine mGd h (by rw [show S.len (wkAd (gMachines_byOne S (α 8))) = 8 from (mg_len (i := 85) R (mA13 rfl) (mg_A (t := 85) R rfl rfl))]) (fun c7 h => ?_)
        refine mLet h (by rw [show S.rI (wkAd (gMachines_byOne S (α 8))) (l3I).toNatClampNeg = V.rI 85 (l3I).toNatClampNeg from (mg_rI (i := 85) R (mA13 rfl) (mg_A (t := 85) R rfl rfl) rfl)]) (fun x13 ex13 h => ?_)
        refine mIf h Iff.rfl (fun c8 h => ?_) (fun c8 h => ?_)
        · refine mGd h (by rw [show S.len (wkAd (gMachines_byOne S (α 8))) = 8 from (mg_len (i := 85) R (mA13 rfl) (mg_A (t := 85) R rfl rfl))]) (fun c9 h => ?_)
          refine mLet h (by rw [show S.rI (wkAd (gMachines_byOne S (α 8))) (l4I).toNatClampNeg = V.rI 85 (l4I).toNatClampNeg from (mg_rI (i := 85) R (mA13 rfl) (mg_A (t := 85) R rfl rfl) rfl)]) (fun x16 ex16 h => ?_)
          refine mLet h rfl (fun x17 ex17 h => ?_)
          exact ih.1 _ _ _ _ _ _ _ R sl2A h (fun S1 R1 F1 => k S1 R1 F1)
        · refine mGd h (by rw [show S.len (wkAd (gMachines_byZero S (α 8))) = 8 from (mg_len (i := 84) R (mA13 rfl) (mg_A (t := 84) R rfl rfl))]) (fun c10 h => ?_)
          refine mLet h (by rw [show S.rI (wkAd (gMachines_byZero S (α 8))) (l4I).toNatClampNeg = V.rI 84 (l4I).toNatClampNeg from (mg_rI (i := 84) R (mA13 rfl) (mg_A (t := 84) R rfl rfl) rfl)]) (fun x19 ex19 h => ?_)
          refine mLet h rfl (fun x20 ex20 h => ?_)
          exact ih.1 _ _ _ _ _ _ _ R sl2A h (fun S1 R1 F1 => k S1 R1 F1)
      · refine mGd h (by rw [show S.len (wkAd (gMachines_byZero S (α 8))) = 8 from (mg_len (i := 84) R (mA13 rfl) (mg_A (t := 84) R rfl rfl))]) (fun c11 h => ?_)
        refine mLet h (by rw [show S.rI (wkAd (gMachines_byZero S (α 8))) (l3I).toNatClampNeg = V.rI 84 (l3I).toNatClampNeg from (mg_rI (i := 84) R (mA13 rfl) (mg_A (t := 84) R rfl rfl) rfl)]) (fun x22 ex22 h => ?_)
        refine mIf h Iff.rfl (fun c12 h => ?_) (fun c12 h => ?_)
        · refine mGd h (by rw [show S.len (wkAd (gMachines_byOne S (α 8))) = 8 from (mg_len (i := 85) R (mA13 rfl) (mg_A (t := 85) R rfl rfl))]) (fun c13 h => ?_)
          refine mLet h (by rw [show S.rI (wkAd (gMachines_byOne S (α 8))) (l4I).toNatClampNeg = V.rI 85 (l4I).toNatClampNeg from (mg_rI (i := 85) R (mA13 rfl) (mg_A (t := 85) R rfl rfl) rfl)]) (fun x25 ex25 h => ?_)
          refine mLet h rfl (fun x26 ex26 h => ?_)
          exact ih.1 _ _ _ _ _ _ _ R sl2A h (fun S1 R1 F1 => k S1 R1 F1)
        · refine mGd h (by rw [show S.len (wkAd (gMachines_byZero S (α 8))) = 8 from (mg_len (i := 84) R (mA13 rfl) (mg_A (t := 84) R rfl rfl))]) (fun c14 h => ?_)
          refine mLet h (by rw [show S.rI (wkAd (gMachines_byZero S (α 8))) (l4I).toNatClampNeg = V.rI 84 (l4I).toNatClampNeg from (mg_rI (i := 84) R (mA13 rfl) (mg_A (t := 84) R rfl rfl) rfl)]) (fun x28 ex28 h => ?_)
          refine mLet h rfl (fun x29 ex29 h => ?_)
          exact ih.1 _ _ _ _ _ _ _ R sl2A h (fun S1 R1 F1 => k S1 R1 F1)
set_option maxHeartbeats 4000000 in
set_option maxRecDepth 100000 in
theorem LX6_judgeLetters {α : Nat → Nat} {F : Nat} {S : wPS} {Ln : Nat → Nat} {V V1 : mV} {v : Int32} {Φ : (Int32 → wPS → Prop)} {l0Ax : Nat} {l1Ax : Nat} {l1A : Nat} {l2Ax : Nat} {l2A : Nat} (h : mX6_judgeLetters F Ln l1A l2A V = some (v, V1)) (R : mRel α S Ln V) (sl1A : mK l1A = 3) (sl2A : mK l2A = 9) (el0A : l0Ax = α 8) (el1A : l1Ax = α l1A) (el2A : l2Ax = α l2A) (k : (∀ S1, mRel α S1 Ln V1 → mFr α S S1 → Φ v S1)) : rX6_judgeLetters F l0Ax l1Ax l2Ax S Φ := by
  have el0A := el0A.symm
  subst el0A
  have el1A := el1A.symm
  subst el1A
  have el2A := el2A.symm
  subst el2A
  have ih := LX6_judgeLetters_go  (α := α) (F := F) (v := v) (Φ := Φ) (V1 := V1) F
  unfold mX6_judgeLetters mX6_judgeLetters_s at h
  unfold rX6_judgeLetters rX6_judgeLetters_s
  obtain ⟨v30, V31, hv30, h⟩ := mBW_some h
  refine LX6_loadStates hv30 R sl1A rfl rfl (fun S31 R31 F31 => ?_)
  obtain ⟨v35, hv35, h⟩ := mBN_some h
  refine LX9_liesWithin hv35 R31 sl2A rfl rfl rfl rfl ?_
  refine mIf h Iff.rfl (fun c15 h => ?_) (fun c15 h => ?_)
  · obtain ⟨rfl, rfl⟩ := mRW h
    exact k _ R31 F31
  · obtain ⟨v41, hv41, h⟩ := mBN_some h
    refine LX3_nodeAsked hv41 R31 sl1A rfl ?_
    exact ih.1 _ _ _ _ _ _ _ R31 sl2A h (fun S1 R1 F1 => k S1 R1 (F31.tr F1))
def mX6_greatestWeight_b0 (F : Nat) (rec : Nat → Int32 → Int32 → Int32 → mV → Option Int32) (l1I : Int32) (l2I : Int32) (l3I : Int32) (V : mV) : Option Int32 :=
  (if (V.fI 8 7) ≤ l3I then some ((if (5 : Int32) < l2I then (5 : Int32) else l2I)) else (mBN (mX11_has F (l1I) (l3I)) fun v2 => (if v2 = 0 then (mLt (l3I + (1 : Int32)) fun x8 => (rec 0 (l1I) (l2I) (x8) V)) else (if l3I < 0 ∨ 8 ≤ (l3I).toNatClampNeg then none else (mLt (if l2I < (V.rI 89 (l3I).toNatClampNeg) then (V.rI 89 (l3I).toNatClampNeg) else l2I) fun x10 => (mLt (l3I + (1 : Int32)) fun x11 => (rec 0 (l1I) (x10) (x11) V)))))))
def mX6_greatestWeight_go (F : Nat) : Nat → Nat → Int32 → Int32 → Int32 → mV → Option Int32
  | 0, _, _, _, _, _ => none
  | k' + 1, lab, l1I, l2I, l3I, V => if lab = 0 then mX6_greatestWeight_b0 F (mX6_greatestWeight_go F k') l1I l2I l3I V else none
def mX6_greatestWeight_s (F : Nat) (rec : Nat → Int32 → Int32 → Int32 → mV → Option Int32) (l1I : Int32) (V : mV) : Option Int32 :=
  (rec 0 (l1I) ((0 : Int32)) ((0 : Int32)) V)
def mX6_greatestWeight (F : Nat) (l1I : Int32) (V : mV) : Option Int32 := mX6_greatestWeight_s F (mX6_greatestWeight_go F F) l1I V
set_option maxHeartbeats 4000000 in
set_option maxRecDepth 100000 in
theorem LX6_greatestWeight_go {α : Nat → Nat} {F : Nat} {Ln : Nat → Nat} {v : Int32} {Φ : (Int32 → wPS → Prop)} : ∀ k' : Nat, (∀ (l1I : Int32) (l2I : Int32) (l3I : Int32) (S : wPS) (V : mV) , mRel α S Ln V → mX6_greatestWeight_go F k' 0 l1I l2I l3I V = some v → (Φ v S) → rX6_greatestWeight_go F k' 0 (α 8) l1I l2I l3I S Φ) := by
  intro k'
  induction k' with
  | zero => exact (fun _ _ _ _ _ _ h _ => by cases h)
  | succ k' ih =>
    intro l1I l2I l3I S V R h k
    rw [mX6_greatestWeight_go, if_pos rfl] at h
    rw [rX6_greatestWeight_go, if_pos rfl]
    unfold mX6_greatestWeight_b0 at h
    unfold rX6_greatestWeight_b0
    refine mIf h (by rw [show gMachines_size S (α 8) = V.fI 8 7 from (mg_I (i := 8) R (by decide) rfl 7)]) (fun c1 h => ?_) (fun c1 h => ?_)
    · cases h
      exact k
    · obtain ⟨v2, hv2, h⟩ := mBN_some h
      refine LX11_has hv2 rfl rfl ?_
      refine mIf h Iff.rfl (fun c2 h => ?_) (fun c2 h => ?_)
      · refine mLet h rfl (fun x8 ex8 h => ?_)
        exact ih _ _ _ _ _ R h k
      · refine mGd h (by rw [show S.len (wkAd (gMachines_weights S (α 8))) = 8 from (mg_len (i := 89) R (mA13 rfl) (mg_A (t := 89) R rfl rfl))]) (fun c3 h => ?_)
        refine mLet h (by rw [show S.rI (wkAd (gMachines_weights S (α 8))) (l3I).toNatClampNeg = V.rI 89 (l3I).toNatClampNeg from (mg_rI (i := 89) R (mA13 rfl) (mg_A (t := 89) R rfl rfl) rfl)]) (fun x10 ex10 h => ?_)
        refine mLet h rfl (fun x11 ex11 h => ?_)
        exact ih _ _ _ _ _ R h k
set_option maxHeartbeats 4000000 in
set_option maxRecDepth 100000 in
theorem LX6_greatestWeight {α : Nat → Nat} {F : Nat} {S : wPS} {Ln : Nat → Nat} {V : mV} {v : Int32} {Φ : (Int32 → wPS → Prop)} {l0Ax : Nat} {l1Ix l1I : Int32} (h : mX6_greatestWeight F l1I V = some v) (R : mRel α S Ln V) (el0A : l0Ax = α 8) (el1I : l1Ix = l1I) (k : (Φ v S)) : rX6_greatestWeight F l0Ax l1Ix S Φ := by
  have el0A := el0A.symm
  subst el0A
  have el1I := el1I.symm
  subst el1I
  have ih := LX6_greatestWeight_go  (α := α) (F := F) (v := v) (Ln := Ln) (Φ := Φ) F
  unfold mX6_greatestWeight mX6_greatestWeight_s at h
  unfold rX6_greatestWeight rX6_greatestWeight_s
  exact ih _ _ _ _ _ R h k
def mX6_withWeight_b0 (F : Nat) (rec : Nat → Int32 → Int32 → Int32 → Int32 → mV → Option Int32) (l1I : Int32) (l2I : Int32) (l3I : Int32) (l4I : Int32) (V : mV) : Option Int32 :=
  (if (V.fI 8 7) ≤ l4I then some (l3I) else (mBN (mX11_has F (l1I) (l4I)) fun v2 => (if v2 = 0 then (mLt (l4I + (1 : Int32)) fun x8 => (rec 0 (l1I) (l2I) (l3I) (x8) V)) else (if l4I < 0 ∨ 8 ≤ (l4I).toNatClampNeg then none else (if (V.rI 89 (l4I).toNatClampNeg) = l2I then (mLt (l3I ||| ((1 : Int32) <<< (l4I &&& 31))) fun x12 => (mLt (l4I + (1 : Int32)) fun x13 => (rec 0 (l1I) (l2I) (x12) (x13) V))) else (mLt (l4I + (1 : Int32)) fun x11 => (rec 0 (l1I) (l2I) (l3I) (x11) V)))))))
def mX6_withWeight_go (F : Nat) : Nat → Nat → Int32 → Int32 → Int32 → Int32 → mV → Option Int32
  | 0, _, _, _, _, _, _ => none
  | k' + 1, lab, l1I, l2I, l3I, l4I, V => if lab = 0 then mX6_withWeight_b0 F (mX6_withWeight_go F k') l1I l2I l3I l4I V else none
def mX6_withWeight_s (F : Nat) (rec : Nat → Int32 → Int32 → Int32 → Int32 → mV → Option Int32) (l1I : Int32) (l2I : Int32) (V : mV) : Option Int32 :=
  (rec 0 (l1I) (l2I) ((0 : Int32)) ((0 : Int32)) V)
def mX6_withWeight (F : Nat) (l1I : Int32) (l2I : Int32) (V : mV) : Option Int32 := mX6_withWeight_s F (mX6_withWeight_go F F) l1I l2I V
set_option maxHeartbeats 4000000 in
set_option maxRecDepth 100000 in
theorem LX6_withWeight_go {α : Nat → Nat} {F : Nat} {Ln : Nat → Nat} {v : Int32} {Φ : (Int32 → wPS → Prop)} : ∀ k' : Nat, (∀ (l1I : Int32) (l2I : Int32) (l3I : Int32) (l4I : Int32) (S : wPS) (V : mV) , mRel α S Ln V → mX6_withWeight_go F k' 0 l1I l2I l3I l4I V = some v → (Φ v S) → rX6_withWeight_go F k' 0 (α 8) l1I l2I l3I l4I S Φ) := by
  intro k'
  induction k' with
  | zero => exact (fun _ _ _ _ _ _ _ h _ => by cases h)
  | succ k' ih =>
    intro l1I l2I l3I l4I S V R h k
    rw [mX6_withWeight_go, if_pos rfl] at h
    rw [rX6_withWeight_go, if_pos rfl]
    unfold mX6_withWeight_b0 at h
    unfold rX6_withWeight_b0
    refine mIf h (by rw [show gMachines_size S (α 8) = V.fI 8 7 from (mg_I (i := 8) R (by decide) rfl 7)]) (fun c1 h => ?_) (fun c1 h => ?_)
    · cases h
      exact k
    · obtain ⟨v2, hv2, h⟩ := mBN_some h
      refine LX11_has hv2 rfl rfl ?_
      refine mIf h Iff.rfl (fun c2 h => ?_) (fun c2 h => ?_)
      · refine mLet h rfl (fun x8 ex8 h => ?_)
        exact ih _ _ _ _ _ _ R h k
      · refine mGd h (by rw [show S.len (wkAd (gMachines_weights S (α 8))) = 8 from (mg_len (i := 89) R (mA13 rfl) (mg_A (t := 89) R rfl rfl))]) (fun c3 h => ?_)
        refine mIf h (by rw [show S.rI (wkAd (gMachines_weights S (α 8))) (l4I).toNatClampNeg = V.rI 89 (l4I).toNatClampNeg from (mg_rI (i := 89) R (mA13 rfl) (mg_A (t := 89) R rfl rfl) rfl)]) (fun c4 h => ?_) (fun c4 h => ?_)
        · refine mLet h rfl (fun x12 ex12 h => ?_)
          refine mLet h rfl (fun x13 ex13 h => ?_)
          exact ih _ _ _ _ _ _ R h k
        · refine mLet h rfl (fun x11 ex11 h => ?_)
          exact ih _ _ _ _ _ _ R h k
set_option maxHeartbeats 4000000 in
set_option maxRecDepth 100000 in
theorem LX6_withWeight {α : Nat → Nat} {F : Nat} {S : wPS} {Ln : Nat → Nat} {V : mV} {v : Int32} {Φ : (Int32 → wPS → Prop)} {l0Ax : Nat} {l1Ix l1I : Int32} {l2Ix l2I : Int32} (h : mX6_withWeight F l1I l2I V = some v) (R : mRel α S Ln V) (el0A : l0Ax = α 8) (el1I : l1Ix = l1I) (el2I : l2Ix = l2I) (k : (Φ v S)) : rX6_withWeight F l0Ax l1Ix l2Ix S Φ := by
  have el0A := el0A.symm
  subst el0A
  have el1I := el1I.symm
  subst el1I
  have el2I := el2I.symm
  subst el2I
  have ih := LX6_withWeight_go  (α := α) (F := F) (v := v) (Ln := Ln) (Φ := Φ) F
  unfold mX6_withWeight mX6_withWeight_s at h
  unfold rX6_withWeight rX6_withWeight_s
  exact ih _ _ _ _ _ _ R h k
def mX6_drawnTo_b0 (F : Nat) (rec : Nat → Int32 → Int32 → Int32 → Int32 → Int32 → mV → Option Int32) (l2I : Int32) (l3I : Int32) (l4I : Int32) (l5I : Int32) (V : mV) : Option Int32 :=
  (if (V.fI 8 7) ≤ l5I then some (l4I) else (rec 1 (l2I) (l3I) (l4I) (l5I) ((0 : Int32)) V))
def mX6_drawnTo_b1 (F : Nat) (rec : Nat → Int32 → Int32 → Int32 → Int32 → Int32 → mV → Option Int32) (l2I : Int32) (l3I : Int32) (l4I : Int32) (l5I : Int32) (l6I : Int32) (V : mV) : Option Int32 :=
  (if (V.fI 8 7) ≤ l6I then (mLt (l5I + (1 : Int32)) fun x3 => (rec 0 (l2I) (l3I) (l4I) (x3) 0 V)) else (if l6I < 0 ∨ 8 ≤ (l6I).toNatClampNeg then none else (mLt ((V.rI 90 (l6I).toNatClampNeg) &&& l3I) fun x5 => (if l6I < 0 ∨ 8 ≤ (l6I).toNatClampNeg then none else (if (V.rI 88 (l6I).toNatClampNeg) = l2I then (if (x5 &&& l4I) = 0 then (mBN (mX11_has F (l3I) (l6I)) fun v27 => (if v27 = 0 then (mLt (l6I + (1 : Int32)) fun x33 => (rec 1 (l2I) (l3I) (l4I) (l5I) (x33) V)) else (mLt (l6I + (1 : Int32)) fun x34 => (rec 1 (l2I) (l3I) (l4I) (l5I) (x34) V)))) else (mBN (mX11_has F (l3I) (l6I)) fun v35 => (if v35 = 0 then (mLt (l6I + (1 : Int32)) fun x41 => (rec 1 (l2I) (l3I) (l4I) (l5I) (x41) V)) else (mLt (l4I ||| ((1 : Int32) <<< (l6I &&& 31))) fun x42 => (mLt (l6I + (1 : Int32)) fun x43 => (rec 1 (l2I) (l3I) (x42) (l5I) (x43) V)))))) else (if (x5 &&& (l4I ^^^ (-1 : Int32))) = 0 then (mBN (mX11_has F (l3I) (l6I)) fun v17 => (if v17 = 0 then (mLt (l6I + (1 : Int32)) fun x23 => (rec 1 (l2I) (l3I) (l4I) (l5I) (x23) V)) else (mLt (l4I ||| ((1 : Int32) <<< (l6I &&& 31))) fun x24 => (mLt (l6I + (1 : Int32)) fun x25 => (rec 1 (l2I) (l3I) (x24) (l5I) (x25) V))))) else (mBN (mX11_has F (l3I) (l6I)) fun v9 => (if v9 = 0 then (mLt (l6I + (1 : Int32)) fun x15 => (rec 1 (l2I) (l3I) (l4I) (l5I) (x15) V)) else (mLt (l6I + (1 : Int32)) fun x16 => (rec 1 (l2I) (l3I) (l4I) (l5I) (x16) V))))))))))
def mX6_drawnTo_go (F : Nat) : Nat → Nat → Int32 → Int32 → Int32 → Int32 → Int32 → mV → Option Int32
  | 0, _, _, _, _, _, _, _ => none
  | k' + 1, lab, l2I, l3I, l4I, l5I, l6I, V => if lab = 0 then mX6_drawnTo_b0 F (mX6_drawnTo_go F k') l2I l3I l4I l5I V else if lab = 1 then mX6_drawnTo_b1 F (mX6_drawnTo_go F k') l2I l3I l4I l5I l6I V else none
def mX6_drawnTo_s (F : Nat) (rec : Nat → Int32 → Int32 → Int32 → Int32 → Int32 → mV → Option Int32) (l1I : Int32) (l2I : Int32) (l3I : Int32) (V : mV) : Option Int32 :=
  (rec 0 (l2I) (l3I) (l1I) ((0 : Int32)) 0 V)
def mX6_drawnTo (F : Nat) (l1I : Int32) (l2I : Int32) (l3I : Int32) (V : mV) : Option Int32 := mX6_drawnTo_s F (mX6_drawnTo_go F F) l1I l2I l3I V
set_option maxHeartbeats 4000000 in
set_option maxRecDepth 100000 in
theorem LX6_drawnTo_go {α : Nat → Nat} {F : Nat} {Ln : Nat → Nat} {v : Int32} {Φ : (Int32 → wPS → Prop)} : ∀ k' : Nat, (∀ (l2I : Int32) (l3I : Int32) (l4I : Int32) (l5I : Int32) (S : wPS) (V : mV) , mRel α S Ln V → mX6_drawnTo_go F k' 0 l2I l3I l4I l5I 0 V = some v → (Φ v S) → rX6_drawnTo_go F k' 0 (α 8) l2I l3I l4I l5I 0 S Φ) ∧ (∀ (l2I : Int32) (l3I : Int32) (l4I : Int32) (l5I : Int32) (l6I : Int32) (S : wPS) (V : mV) , mRel α S Ln V → mX6_drawnTo_go F k' 1 l2I l3I l4I l5I l6I V = some v → (Φ v S) → rX6_drawnTo_go F k' 1 (α 8) l2I l3I l4I l5I l6I S Φ) := by
  intro k'
  induction k' with
  | zero => exact ⟨(fun _ _ _ _ _ _ _ h _ => by cases h), (fun _ _ _ _ _ _ _ _ h _ => by cases h)⟩
  | succ k' ih =>
    refine ⟨?_, ?_⟩
    · intro l2I l3I l4I l5I S V R h k
      rw [mX6_drawnTo_go, if_pos rfl] at h
      rw [rX6_drawnTo_go, if_pos rfl]
      unfold mX6_drawnTo_b0 at h
      unfold rX6_drawnTo_b0
      refine mIf h (by rw [show gMachines_size S (α 8) = V.fI 8 7 from (mg_I (i := 8) R (by decide) rfl 7)]) (fun c1 h => ?_) (fun c1 h => ?_)
      · cases h
        exact k
      · exact ih.2 _ _ _ _ _ _ _ R h k
    · intro l2I l3I l4I l5I l6I S V R h k
      rw [mX6_drawnTo_go, if_neg (by decide), if_pos rfl] at h
      rw [rX6_drawnTo_go, if_neg (by decide), if_pos rfl]
      unfold mX6_drawnTo_b1 at h
      unfold rX6_drawnTo_b1
      refine mIf h (by rw [show gMachines_size S (α 8) = V.fI 8 7 from (mg_I (i := 8) R (by decide) rfl 7)]) (fun c2 h => ?_) (fun c2 h => ?_)
      · refine mLet h rfl (fun x3 ex3 h => ?_)
        exact ih.1 _ _ _ _ _ _ R h k
      · refine mGd h (by rw [show S.len (wkAd (gMachines_ways S (α 8))) = 8 from (mg_len (i := 90) R (mA13 rfl) (mg_A (t := 90) R rfl rfl))]) (fun c3 h => ?_)
        refine mLet h (by rw [show S.rI (wkAd (gMachines_ways S (α 8))) (l6I).toNatClampNeg = V.rI 90 (l6I).toNatClampNeg from (mg_rI (i := 90) R (mA13 rfl) (mg_A (t := 90) R rfl rfl) rfl)]) (fun x5 ex5 h => ?_)
        refine mGd h (by rw [show S.len (wkAd (gMachines_owners S (α 8))) = 8 from (mg_len (i := 88) R (mA13 rfl) (mg_A (t := 88) R rfl rfl))]) (fun c4 h => ?_)
        refine mIf h (by rw [show S.rI (wkAd (gMachines_owners S (α 8))) (l6I).toNatClampNeg = V.rI 88 (l6I).toNatClampNeg from (mg_rI (i := 88) R (mA13 rfl) (mg_A (t := 88) R rfl rfl) rfl)]) (fun c5 h => ?_) (fun c5 h => ?_)
        · refine mIf h Iff.rfl (fun c6 h => ?_) (fun c6 h => ?_)
          · obtain ⟨v27, hv27, h⟩ := mBN_some h
            refine LX11_has hv27 rfl rfl ?_
            refine mIf h Iff.rfl (fun c7 h => ?_) (fun c7 h => ?_)
            · refine mLet h rfl (fun x33 ex33 h => ?_)
              exact ih.2 _ _ _ _ _ _ _ R h k
            · refine mLet h rfl (fun x34 ex34 h => ?_)
              exact ih.2 _ _ _ _ _ _ _ R h k
          · obtain ⟨v35, hv35, h⟩ := mBN_some h
            refine LX11_has hv35 rfl rfl ?_
            refine mIf h Iff.rfl (fun c8 h => ?_) (fun c8 h => ?_)
            · refine mLet h rfl (fun x41 ex41 h => ?_)
              exact ih.2 _ _ _ _ _ _ _ R h k
            · refine mLet h rfl (fun x42 ex42 h => ?_)
              refine mLet h rfl (fun x43 ex43 h => ?_)
              exact ih.2 _ _ _ _ _ _ _ R h k
        · refine mIf h Iff.rfl (fun c9 h => ?_) (fun c9 h => ?_)
          · obtain ⟨v17, hv17, h⟩ := mBN_some h
            refine LX11_has hv17 rfl rfl ?_
            refine mIf h Iff.rfl (fun c10 h => ?_) (fun c10 h => ?_)
            · refine mLet h rfl (fun x23 ex23 h => ?_)
              exact ih.2 _ _ _ _ _ _ _ R h k
            · refine mLet h rfl (fun x24 ex24 h => ?_)
              refine mLet h rfl (fun x25 ex25 h => ?_)
              exact ih.2 _ _ _ _ _ _ _ R h k
          · obtain ⟨v9, hv9, h⟩ := mBN_some h
            refine LX11_has hv9 rfl rfl ?_
            refine mIf h Iff.rfl (fun c11 h => ?_) (fun c11 h => ?_)
            · refine mLet h rfl (fun x15 ex15 h => ?_)
              exact ih.2 _ _ _ _ _ _ _ R h k
            · refine mLet h rfl (fun x16 ex16 h => ?_)
              exact ih.2 _ _ _ _ _ _ _ R h k
set_option maxHeartbeats 4000000 in
set_option maxRecDepth 100000 in
theorem LX6_drawnTo {α : Nat → Nat} {F : Nat} {S : wPS} {Ln : Nat → Nat} {V : mV} {v : Int32} {Φ : (Int32 → wPS → Prop)} {l0Ax : Nat} {l1Ix l1I : Int32} {l2Ix l2I : Int32} {l3Ix l3I : Int32} (h : mX6_drawnTo F l1I l2I l3I V = some v) (R : mRel α S Ln V) (el0A : l0Ax = α 8) (el1I : l1Ix = l1I) (el2I : l2Ix = l2I) (el3I : l3Ix = l3I) (k : (Φ v S)) : rX6_drawnTo F l0Ax l1Ix l2Ix l3Ix S Φ := by
  have el0A := el0A.symm
  subst el0A
  have el1I := el1I.symm
  subst el1I
  have el2I := el2I.symm
  subst el2I
  have el3I := el3I.symm
  subst el3I
  have ih := LX6_drawnTo_go  (α := α) (F := F) (v := v) (Ln := Ln) (Φ := Φ) F
  unfold mX6_drawnTo mX6_drawnTo_s at h
  unfold rX6_drawnTo rX6_drawnTo_s
  exact ih.1 _ _ _ _ _ _ R h k
end
