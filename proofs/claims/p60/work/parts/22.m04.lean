/-! LIFTED BY PROGRAM (lift.py): X6_lettersAt, X6_isToldBy, X6_lowestLike, X6_loadNodes, X7_canBeAlone, X7_loadFlows, X7_goBack, X8_rightSide, X8_takeFromOthers. -/
section
def mX6_lettersAt (F : Nat) (l1I : Int32) (l2I : Int32) (V : mV) : Option Int32 :=
  (if ((l1I * (8 : Int32)) + l2I) < 0 ∨ 64 ≤ (((l1I * (8 : Int32)) + l2I)).toNatClampNeg then none else some ((V.rI 87 (((l1I * (8 : Int32)) + l2I)).toNatClampNeg)))
set_option maxHeartbeats 4000000 in
set_option maxRecDepth 100000 in
theorem LX6_lettersAt {α : Nat → Nat} {F : Nat} {S : wPS} {Ln : Nat → Nat} {V : mV} {v : Int32} {Φ : (Int32 → wPS → Prop)} {l0Ax : Nat} {l1Ix l1I : Int32} {l2Ix l2I : Int32} (h : mX6_lettersAt F l1I l2I V = some v) (R : mRel α S Ln V) (el0A : l0Ax = α 8) (el1I : l1Ix = l1I) (el2I : l2Ix = l2I) (k : (Φ v S)) : rX6_lettersAt F l0Ax l1Ix l2Ix S Φ := by
  have el0A := el0A.symm
  subst el0A
  have el1I := el1I.symm
  subst el1I
  have el2I := el2I.symm
  subst el2I
  unfold mX6_lettersAt at h
  unfold rX6_lettersAt
  refine mGd h (by rw [show S.len (wkAd (gMachines_letters S (α 8))) = 64 from (mg_len (i := 87) R (mA13 rfl) (mg_A (t := 87) R rfl rfl))]) (fun c1 h => ?_)
  cases h
  rw [show S.rI (wkAd (gMachines_letters S (α 8))) (((l1I * (8 : Int32)) + l2I)).toNatClampNeg = V.rI 87 (((l1I * (8 : Int32)) + l2I)).toNatClampNeg from (mg_rI (i := 87) R (mA13 rfl) (mg_A (t := 87) R rfl rfl) rfl)]
  exact k
def mX6_isToldBy (F : Nat) (l1I : Int32) (l2I : Int32) (l3I : Int32) (V : mV) : Option Int32 :=
  (if l3I = 0 then (if l1I < 0 ∨ 8 ≤ (l1I).toNatClampNeg then none else (if l2I < 0 ∨ 8 ≤ (l2I).toNatClampNeg then none else (if (V.rI 86 (l1I).toNatClampNeg) = (V.rI 86 (l2I).toNatClampNeg) then some ((0 : Int32)) else some ((1 : Int32))))) else (if l1I < 0 ∨ 8 ≤ (l1I).toNatClampNeg then none else (if l2I < 0 ∨ 8 ≤ (l2I).toNatClampNeg then none else (mBN (mX6_lettersAt F ((V.rI 84 (l1I).toNatClampNeg)) ((V.rI 84 (l2I).toNatClampNeg)) V) fun v4 => (if v4 = (l3I - (1 : Int32)) then some ((1 : Int32)) else (if l1I < 0 ∨ 8 ≤ (l1I).toNatClampNeg then none else (if l2I < 0 ∨ 8 ≤ (l2I).toNatClampNeg then none else (mBN (mX6_lettersAt F ((V.rI 85 (l1I).toNatClampNeg)) ((V.rI 85 (l2I).toNatClampNeg)) V) fun v12 => (if v12 = (l3I - (1 : Int32)) then some ((1 : Int32)) else some ((0 : Int32)))))))))))
set_option maxHeartbeats 4000000 in
set_option maxRecDepth 100000 in
theorem LX6_isToldBy {α : Nat → Nat} {F : Nat} {S : wPS} {Ln : Nat → Nat} {V : mV} {v : Int32} {Φ : (Int32 → wPS → Prop)} {l0Ax : Nat} {l1Ix l1I : Int32} {l2Ix l2I : Int32} {l3Ix l3I : Int32} (h : mX6_isToldBy F l1I l2I l3I V = some v) (R : mRel α S Ln V) (el0A : l0Ax = α 8) (el1I : l1Ix = l1I) (el2I : l2Ix = l2I) (el3I : l3Ix = l3I) (k : (Φ v S)) : rX6_isToldBy F l0Ax l1Ix l2Ix l3Ix S Φ := by
  have el0A := el0A.symm
  subst el0A
  have el1I := el1I.symm
  subst el1I
  have el2I := el2I.symm
  subst el2I
  have el3I := el3I.symm
  subst el3I
  unfold mX6_isToldBy at h
  unfold rX6_isToldBy
  refine mIf h Iff.rfl (fun c1 h => ?_) (fun c1 h => ?_)
  · refine mGd h (by rw [show S.len (wkAd (gMachines_finals S (α 8))) = 8 from (mg_len (i := 86) R (mA13 rfl) (mg_A (t := 86) R rfl rfl))]) (fun c2 h => ?_)
    refine mGd h (by rw [show S.len (wkAd (gMachines_finals S (α 8))) = 8 from (mg_len (i := 86) R (mA13 rfl) (mg_A (t := 86) R rfl rfl))]) (fun c3 h => ?_)
    refine mIf h (by rw [show S.rI (wkAd (gMachines_finals S (α 8))) (l1I).toNatClampNeg = V.rI 86 (l1I).toNatClampNeg from (mg_rI (i := 86) R (mA13 rfl) (mg_A (t := 86) R rfl rfl) rfl), show S.rI (wkAd (gMachines_finals S (α 8))) (l2I).toNatClampNeg = V.rI 86 (l2I).toNatClampNeg from (mg_rI (i := 86) R (mA13 rfl) (mg_A (t := 86) R rfl rfl) rfl)]) (fun c4 h => ?_) (fun c4 h => ?_)
    · cases h
      exact k
    · cases h
      exact k
  · refine mGd h (by rw [show S.len (wkAd (gMachines_byZero S (α 8))) = 8 from (mg_len (i := 84) R (mA13 rfl) (mg_A (t := 84) R rfl rfl))]) (fun c5 h => ?_)
    refine mGd h (by rw [show S.len (wkAd (gMachines_byZero S (α 8))) = 8 from (mg_len (i := 84) R (mA13 rfl) (mg_A (t := 84) R rfl rfl))]) (fun c6 h => ?_)
    obtain ⟨v4, hv4, h⟩ := mBN_some h
    refine LX6_lettersAt hv4 R rfl (by rw [show S.rI (wkAd (gMachines_byZero S (α 8))) (l1I).toNatClampNeg = V.rI 84 (l1I).toNatClampNeg from (mg_rI (i := 84) R (mA13 rfl) (mg_A (t := 84) R rfl rfl) rfl)]) (by rw [show S.rI (wkAd (gMachines_byZero S (α 8))) (l2I).toNatClampNeg = V.rI 84 (l2I).toNatClampNeg from (mg_rI (i := 84) R (mA13 rfl) (mg_A (t := 84) R rfl rfl) rfl)]) ?_
    refine mIf h Iff.rfl (fun c7 h => ?_) (fun c7 h => ?_)
    · cases h
      exact k
    · refine mGd h (by rw [show S.len (wkAd (gMachines_byOne S (α 8))) = 8 from (mg_len (i := 85) R (mA13 rfl) (mg_A (t := 85) R rfl rfl))]) (fun c8 h => ?_)
      refine mGd h (by rw [show S.len (wkAd (gMachines_byOne S (α 8))) = 8 from (mg_len (i := 85) R (mA13 rfl) (mg_A (t := 85) R rfl rfl))]) (fun c9 h => ?_)
      obtain ⟨v12, hv12, h⟩ := mBN_some h
      refine LX6_lettersAt hv12 R rfl (by rw [show S.rI (wkAd (gMachines_byOne S (α 8))) (l1I).toNatClampNeg = V.rI 85 (l1I).toNatClampNeg from (mg_rI (i := 85) R (mA13 rfl) (mg_A (t := 85) R rfl rfl) rfl)]) (by rw [show S.rI (wkAd (gMachines_byOne S (α 8))) (l2I).toNatClampNeg = V.rI 85 (l2I).toNatClampNeg from (mg_rI (i := 85) R (mA13 rfl) (mg_A (t := 85) R rfl rfl) rfl)]) ?_
      refine mIf h Iff.rfl (fun c10 h => ?_) (fun c10 h => ?_)
      · cases h
        exact k
      · cases h
        exact k
def mX6_lowestLike_b0 (F : Nat) (rec : Nat → Int32 → Int32 → mV → Option Int32) (l1I : Int32) (l2I : Int32) (V : mV) : Option Int32 :=
  (if l1I ≤ l2I then some (l1I) else (mBN (mX6_lettersAt F (l2I) (l1I) V) fun v2 => (if 0 ≤ v2 then (mLt (l2I + (1 : Int32)) fun x8 => (rec 0 (l1I) (x8) V)) else some (l2I))))
def mX6_lowestLike_go (F : Nat) : Nat → Nat → Int32 → Int32 → mV → Option Int32
  | 0, _, _, _, _ => none
  | k' + 1, lab, l1I, l2I, V => if lab = 0 then mX6_lowestLike_b0 F (mX6_lowestLike_go F k') l1I l2I V else none
def mX6_lowestLike_s (F : Nat) (rec : Nat → Int32 → Int32 → mV → Option Int32) (l1I : Int32) (V : mV) : Option Int32 :=
  (rec 0 (l1I) ((0 : Int32)) V)
def mX6_lowestLike (F : Nat) (l1I : Int32) (V : mV) : Option Int32 := mX6_lowestLike_s F (mX6_lowestLike_go F F) l1I V
set_option maxHeartbeats 4000000 in
set_option maxRecDepth 100000 in
theorem LX6_lowestLike_go {α : Nat → Nat} {F : Nat} {Ln : Nat → Nat} {v : Int32} {Φ : (Int32 → wPS → Prop)} : ∀ k' : Nat, (∀ (l1I : Int32) (l2I : Int32) (S : wPS) (V : mV) , mRel α S Ln V → mX6_lowestLike_go F k' 0 l1I l2I V = some v → (Φ v S) → rX6_lowestLike_go F k' 0 (α 8) l1I l2I S Φ) := by
  intro k'
  induction k' with
  | zero => exact (fun _ _ _ _ _ h _ => by cases h)
  | succ k' ih =>
    intro l1I l2I S V R h k
    rw [mX6_lowestLike_go, if_pos rfl] at h
    rw [rX6_lowestLike_go, if_pos rfl]
    unfold mX6_lowestLike_b0 at h
    unfold rX6_lowestLike_b0
    refine mIf h Iff.rfl (fun c1 h => ?_) (fun c1 h => ?_)
    · cases h
      exact k
    · obtain ⟨v2, hv2, h⟩ := mBN_some h
      refine LX6_lettersAt hv2 R rfl rfl rfl ?_
      refine mIf h Iff.rfl (fun c2 h => ?_) (fun c2 h => ?_)
      · refine mLet h rfl (fun x8 ex8 h => ?_)
        exact ih _ _ _ _ R h k
      · cases h
        exact k
set_option maxHeartbeats 4000000 in
set_option maxRecDepth 100000 in
theorem LX6_lowestLike {α : Nat → Nat} {F : Nat} {S : wPS} {Ln : Nat → Nat} {V : mV} {v : Int32} {Φ : (Int32 → wPS → Prop)} {l0Ax : Nat} {l1Ix l1I : Int32} (h : mX6_lowestLike F l1I V = some v) (R : mRel α S Ln V) (el0A : l0Ax = α 8) (el1I : l1Ix = l1I) (k : (Φ v S)) : rX6_lowestLike F l0Ax l1Ix S Φ := by
  have el0A := el0A.symm
  subst el0A
  have el1I := el1I.symm
  subst el1I
  have ih := LX6_lowestLike_go  (α := α) (F := F) (v := v) (Ln := Ln) (Φ := Φ) F
  unfold mX6_lowestLike mX6_lowestLike_s at h
  unfold rX6_lowestLike rX6_lowestLike_s
  exact ih _ _ _ _ R h k
def mX6_loadNodes_b0 (F : Nat) (rec : Nat → Nat → Int32 → Int32 → Int32 → Nat → Int32 → Int32 → mV → Option (Unit × mV)) (l1A : Nat) (l2I : Int32) (V : mV) : Option (Unit × mV) :=
  (if (V.fI 8 7) ≤ l2I then some ((), V) else (if (V.fI l1A 6) ≤ l2I then (rec 1 l1A (l2I) ((0 : Int32)) 0 88 (l2I) ((0 : Int32)) V) else (mBN (mX3_at F l1A (l2I) ((0 : Int32)) V) fun v3 => (rec 1 l1A (l2I) ((1 : Int32)) 0 88 (l2I) (v3) V))))
def mX6_loadNodes_b1 (F : Nat) (rec : Nat → Nat → Int32 → Int32 → Int32 → Nat → Int32 → Int32 → mV → Option (Unit × mV)) (l1A : Nat) (l2I : Int32) (l3I : Int32) (s0A : Nat) (s1I : Int32) (s2I : Int32) (V : mV) : Option (Unit × mV) :=
  (if s1I < 0 ∨ mLen s0A ≤ (s1I).toNatClampNeg then none else (mLt (mI V s0A (s1I) (s2I)) fun V9 => (if l3I = 0 then (if l2I < 0 ∨ 8 ≤ (l2I).toNatClampNeg then none else (mLt (mI V9 89 (l2I) ((0 : Int32))) fun V12 => (if l3I = 0 then (if l2I < 0 ∨ 8 ≤ (l2I).toNatClampNeg then none else (mLt (mI V12 90 (l2I) (((1 : Int32) <<< (l2I &&& 31)))) fun V15 => (rec 2 l1A (l2I) (l3I) ((2 : Int32)) 0 0 0 V15))) else (if l2I < 0 ∨ 8 ≤ (l2I).toNatClampNeg then none else (mLt (mI V12 90 (l2I) ((0 : Int32))) fun V17 => (rec 2 l1A (l2I) (l3I) ((2 : Int32)) 0 0 0 V17)))))) else (mBN (mX3_at F l1A (l2I) ((1 : Int32)) V9) fun v18 => (if l2I < 0 ∨ 8 ≤ (l2I).toNatClampNeg then none else (mLt (mI V9 89 (l2I) (v18)) fun V24 => (if l3I = 0 then (if l2I < 0 ∨ 8 ≤ (l2I).toNatClampNeg then none else (mLt (mI V24 90 (l2I) (((1 : Int32) <<< (l2I &&& 31)))) fun V27 => (rec 2 l1A (l2I) (l3I) ((2 : Int32)) 0 0 0 V27))) else (if l2I < 0 ∨ 8 ≤ (l2I).toNatClampNeg then none else (mLt (mI V24 90 (l2I) ((0 : Int32))) fun V29 => (rec 2 l1A (l2I) (l3I) ((2 : Int32)) 0 0 0 V29))))))))))
def mX6_loadNodes_b2 (F : Nat) (rec : Nat → Nat → Int32 → Int32 → Int32 → Nat → Int32 → Int32 → mV → Option (Unit × mV)) (l1A : Nat) (l2I : Int32) (l3I : Int32) (l4I : Int32) (V : mV) : Option (Unit × mV) :=
  (if (5 : Int32) ≤ l4I then (mLt (l2I + (1 : Int32)) fun x31 => (rec 0 l1A (x31) 0 0 0 0 0 V)) else (if l3I = 0 then (mLt (l2I + (1 : Int32)) fun x33 => (rec 0 l1A (x33) 0 0 0 0 0 V)) else (mBN (mX3_at F l1A (l2I) (l4I) V) fun v34 => (if v34 < 0 then (mLt (l4I + (1 : Int32)) fun x40 => (rec 2 l1A (l2I) (l3I) (x40) 0 0 0 V)) else (if l2I < 0 ∨ 8 ≤ (l2I).toNatClampNeg then none else (mBN (mX3_at F l1A (l2I) (l4I) V) fun v42 => (if l2I < 0 ∨ 8 ≤ (l2I).toNatClampNeg then none else (mLt (mI V 90 (l2I) (((V.rI 90 (l2I).toNatClampNeg) ||| ((1 : Int32) <<< (v42 &&& 31))))) fun V48 => (mLt (l4I + (1 : Int32)) fun x49 => (rec 2 l1A (l2I) (l3I) (x49) 0 0 0 V48))))))))))
def mX6_loadNodes_go (F : Nat) : Nat → Nat → Nat → Int32 → Int32 → Int32 → Nat → Int32 → Int32 → mV → Option (Unit × mV)
  | 0, _, _, _, _, _, _, _, _, _ => none
  | k' + 1, lab, l1A, l2I, l3I, l4I, s0A, s1I, s2I, V => if lab = 0 then mX6_loadNodes_b0 F (mX6_loadNodes_go F k') l1A l2I V else if lab = 1 then mX6_loadNodes_b1 F (mX6_loadNodes_go F k') l1A l2I l3I s0A s1I s2I V else if lab = 2 then mX6_loadNodes_b2 F (mX6_loadNodes_go F k') l1A l2I l3I l4I V else none
def mX6_loadNodes_s (F : Nat) (rec : Nat → Nat → Int32 → Int32 → Int32 → Nat → Int32 → Int32 → mV → Option (Unit × mV)) (l1A : Nat) (V : mV) : Option (Unit × mV) :=
  (mLt (mF V 8 7 ((V.fI l1A 1))) fun V50 => (rec 0 l1A ((0 : Int32)) 0 0 0 0 0 V50))
def mX6_loadNodes (F : Nat) (l1A : Nat) (V : mV) : Option (Unit × mV) := mX6_loadNodes_s F (mX6_loadNodes_go F F) l1A V
set_option maxHeartbeats 4000000 in
set_option maxRecDepth 100000 in
theorem LX6_loadNodes_go {α : Nat → Nat} {F : Nat} {Ln : Nat → Nat} {v : Unit} {V1 : mV} {Φ : (Unit → wPS → Prop)} : ∀ k' : Nat, (∀ (l1A : Nat) (l2I : Int32) (S : wPS) (V : mV) , mRel α S Ln V → mK l1A = 3 → mX6_loadNodes_go F k' 0 l1A l2I 0 0 0 0 0 V = some (v, V1) → (∀ S1, mRel α S1 Ln V1 → mFr α S S1 → Φ v S1) → rX6_loadNodes_go F k' 0 (α 8) (α l1A) l2I 0 0 0 0 0 S Φ) ∧ (∀ (l1A : Nat) (l2I : Int32) (l3I : Int32) (s0A : Nat) (s1I : Int32) (s2I : Int32) (S : wPS) (V : mV) , mRel α S Ln V → mK l1A = 3 → mK s0A = 13 → mX6_loadNodes_go F k' 1 l1A l2I l3I 0 s0A s1I s2I V = some (v, V1) → (∀ S1, mRel α S1 Ln V1 → mFr α S S1 → Φ v S1) → rX6_loadNodes_go F k' 1 (α 8) (α l1A) l2I l3I 0 (α s0A) s1I s2I S Φ) ∧ (∀ (l1A : Nat) (l2I : Int32) (l3I : Int32) (l4I : Int32) (S : wPS) (V : mV) , mRel α S Ln V → mK l1A = 3 → mX6_loadNodes_go F k' 2 l1A l2I l3I l4I 0 0 0 V = some (v, V1) → (∀ S1, mRel α S1 Ln V1 → mFr α S S1 → Φ v S1) → rX6_loadNodes_go F k' 2 (α 8) (α l1A) l2I l3I l4I 0 0 0 S Φ) := by
  intro k'
  induction k' with
  | zero => exact ⟨(fun _ _ _ _ _ _ h _ => by cases h), (fun _ _ _ _ _ _ _ _ _ _ _ h _ => by cases h), (fun _ _ _ _ _ _ _ _ h _ => by cases h)⟩
  | succ k' ih =>
    refine ⟨?_, ?_, ?_⟩
    · intro l1A l2I S V R sl1A h k
      rw [mX6_loadNodes_go, if_pos rfl] at h
      rw [rX6_loadNodes_go, if_pos rfl]
      unfold mX6_loadNodes_b0 at h
      unfold rX6_loadNodes_b0
      refine mIf h (by rw [show gMachines_size S (α 8) = V.fI 8 7 from (mg_I (i := 8) R (by decide) rfl 7)]) (fun c1 h => ?_) (fun c1 h => ?_)
      · obtain ⟨rfl, rfl⟩ := mRW h
        exact k _ R mFr.rf
      · refine mIf h (by rw [show gEntry_itemCount S (α l1A) = V.fI l1A 6 from (mg_I (i := l1A) R (mO3 sl1A) rfl 6)]) (fun c2 h => ?_) (fun c2 h => ?_)
        · rw [show (wkAd (gMachines_owners S (α 8))) = α 88 from (mg_A (t := 88) R rfl rfl)]
          exact ih.2.1 _ _ _ _ _ _ _ _ R sl1A rfl h (fun S1 R1 F1 => k S1 R1 F1)
        · obtain ⟨v3, hv3, h⟩ := mBN_some h
          refine LX3_at hv3 R sl1A rfl rfl rfl ?_
          rw [show (wkAd (gMachines_owners S (α 8))) = α 88 from (mg_A (t := 88) R rfl rfl)]
          exact ih.2.1 _ _ _ _ _ _ _ _ R sl1A rfl h (fun S1 R1 F1 => k S1 R1 F1)
    · intro l1A l2I l3I s0A s1I s2I S V R sl1A ss0A h k
      rw [mX6_loadNodes_go, if_neg (by decide), if_pos rfl] at h
      rw [rX6_loadNodes_go, if_neg (by decide), if_pos rfl]
      unfold mX6_loadNodes_b1 at h
      unfold rX6_loadNodes_b1
      refine mGd h (by rw [show S.len (α s0A) = mLen s0A from (mg_len R (mA13 ss0A) rfl)]) (fun c3 h => ?_)
      obtain ⟨V9, eV9, h⟩ := mLt_some h
      refine mU_I eV9 R (mA13 ss0A) rfl rfl rfl (fun S9 R9 F9 => ?_)
      refine mIf h Iff.rfl (fun c4 h => ?_) (fun c4 h => ?_)
      · refine mGd h (by rw [show S9.len (wkAd (gMachines_weights S9 (α 8))) = 8 from (mg_len (i := 89) R9 (mA13 rfl) (mg_A (t := 89) R9 rfl rfl))]) (fun c5 h => ?_)
        obtain ⟨V12, eV12, h⟩ := mLt_some h
        refine mU_I eV12 R9 (mA13 rfl) (mg_A (t := 89) R9 rfl rfl) rfl rfl (fun S12 R12 F12 => ?_)
        refine mIf h Iff.rfl (fun c6 h => ?_) (fun c6 h => ?_)
        · refine mGd h (by rw [show S12.len (wkAd (gMachines_ways S12 (α 8))) = 8 from (mg_len (i := 90) R12 (mA13 rfl) (mg_A (t := 90) R12 rfl rfl))]) (fun c7 h => ?_)
          obtain ⟨V15, eV15, h⟩ := mLt_some h
          refine mU_I eV15 R12 (mA13 rfl) (mg_A (t := 90) R12 rfl rfl) rfl rfl (fun S15 R15 F15 => ?_)
          exact ih.2.2 _ _ _ _ _ _ R15 sl1A h (fun S1 R1 F1 => k S1 R1 (F9.tr (F12.tr (F15.tr F1))))
        · refine mGd h (by rw [show S12.len (wkAd (gMachines_ways S12 (α 8))) = 8 from (mg_len (i := 90) R12 (mA13 rfl) (mg_A (t := 90) R12 rfl rfl))]) (fun c8 h => ?_)
          obtain ⟨V17, eV17, h⟩ := mLt_some h
          refine mU_I eV17 R12 (mA13 rfl) (mg_A (t := 90) R12 rfl rfl) rfl rfl (fun S17 R17 F17 => ?_)
          exact ih.2.2 _ _ _ _ _ _ R17 sl1A h (fun S1 R1 F1 => k S1 R1 (F9.tr (F12.tr (F17.tr F1))))
      · obtain ⟨v18, hv18, h⟩ := mBN_some h
        refine LX3_at hv18 R9 sl1A rfl rfl rfl ?_
        refine mGd h (by rw [show S9.len (wkAd (gMachines_weights S9 (α 8))) = 8 from (mg_len (i := 89) R9 (mA13 rfl) (mg_A (t := 89) R9 rfl rfl))]) (fun c9 h => ?_)
        obtain ⟨V24, eV24, h⟩ := mLt_some h
        refine mU_I eV24 R9 (mA13 rfl) (mg_A (t := 89) R9 rfl rfl) rfl rfl (fun S24 R24 F24 => ?_)
        refine mIf h Iff.rfl (fun c10 h => ?_) (fun c10 h => ?_)
        · refine mGd h (by rw [show S24.len (wkAd (gMachines_ways S24 (α 8))) = 8 from (mg_len (i := 90) R24 (mA13 rfl) (mg_A (t := 90) R24 rfl rfl))]) (fun c11 h => ?_)
          obtain ⟨V27, eV27, h⟩ := mLt_some h
          refine mU_I eV27 R24 (mA13 rfl) (mg_A (t := 90) R24 rfl rfl) rfl rfl (fun S27 R27 F27 => ?_)
          exact ih.2.2 _ _ _ _ _ _ R27 sl1A h (fun S1 R1 F1 => k S1 R1 (F9.tr (F24.tr (F27.tr F1))))
        · refine mGd h (by rw [show S24.len (wkAd (gMachines_ways S24 (α 8))) = 8 from (mg_len (i := 90) R24 (mA13 rfl) (mg_A (t := 90) R24 rfl rfl))]) (fun c12 h => ?_)
          obtain ⟨V29, eV29, h⟩ := mLt_some h
          refine mU_I eV29 R24 (mA13 rfl) (mg_A (t := 90) R24 rfl rfl) rfl rfl (fun S29 R29 F29 => ?_)
          exact ih.2.2 _ _ _ _ _ _ R29 sl1A h (fun S1 R1 F1 => k S1 R1 (F9.tr (F24.tr (F29.tr F1))))
    · intro l1A l2I l3I l4I S V R sl1A h k
      rw [mX6_loadNodes_go, if_neg (by decide), if_neg (by decide), if_pos rfl] at h
      rw [rX6_loadNodes_go, if_neg (by decide), if_neg (by decide), if_pos rfl]
      unfold mX6_loadNodes_b2 at h
      unfold rX6_loadNodes_b2
      refine mIf h Iff.rfl (fun c13 h => ?_) (fun c13 h => ?_)
      · refine mLet h rfl (fun x31 ex31 h => ?_)
        exact ih.1 _ _ _ _ R sl1A h (fun S1 R1 F1 => k S1 R1 F1)
      · refine mIf h Iff.rfl (fun c14 h => ?_) (fun c14 h => ?_)
        · refine mLet h rfl (fun x33 ex33 h => ?_)
          exact ih.1 _ _ _ _ R sl1A h (fun S1 R1 F1 => k S1 R1 F1)
        · obtain ⟨v34, hv34, h⟩ := mBN_some h
          refine LX3_at hv34 R sl1A rfl rfl rfl ?_
          refine mIf h Iff.rfl (fun c15 h => ?_) (fun c15 h => ?_)
          · refine mLet h rfl (fun x40 ex40 h => ?_)
            exact ih.2.2 _ _ _ _ _ _ R sl1A h (fun S1 R1 F1 => k S1 R1 F1)
          · refine mGd h (by rw [show S.len (wkAd (gMachines_ways S (α 8))) = 8 from (mg_len (i := 90) R (mA13 rfl) (mg_A (t := 90) R rfl rfl))]) (fun c16 h => ?_)
            obtain ⟨v42, hv42, h⟩ := mBN_some h
            refine LX3_at hv42 R sl1A rfl rfl rfl ?_
            refine mGd h (by rw [show S.len (wkAd (gMachines_ways S (α 8))) = 8 from (mg_len (i := 90) R (mA13 rfl) (mg_A (t := 90) R rfl rfl))]) (fun c17 h => ?_)
            obtain ⟨V48, eV48, h⟩ := mLt_some h
            refine mU_I eV48 R (mA13 rfl) (mg_A (t := 90) R rfl rfl) rfl (by rw [show S.rI (wkAd (gMachines_ways S (α 8))) (l2I).toNatClampNeg = V.rI 90 (l2I).toNatClampNeg from (mg_rI (i := 90) R (mA13 rfl) (mg_A (t := 90) R rfl rfl) rfl)]) (fun S48 R48 F48 => ?_)
            refine mLet h rfl (fun x49 ex49 h => ?_)
            exact ih.2.2 _ _ _ _ _ _ R48 sl1A h (fun S1 R1 F1 => k S1 R1 (F48.tr F1))
set_option maxHeartbeats 4000000 in
set_option maxRecDepth 100000 in
theorem LX6_loadNodes {α : Nat → Nat} {F : Nat} {S : wPS} {Ln : Nat → Nat} {V V1 : mV} {v : Unit} {Φ : (Unit → wPS → Prop)} {l0Ax : Nat} {l1Ax : Nat} {l1A : Nat} (h : mX6_loadNodes F l1A V = some (v, V1)) (R : mRel α S Ln V) (sl1A : mK l1A = 3) (el0A : l0Ax = α 8) (el1A : l1Ax = α l1A) (k : (∀ S1, mRel α S1 Ln V1 → mFr α S S1 → Φ v S1)) : rX6_loadNodes F l0Ax l1Ax S Φ := by
  have el0A := el0A.symm
  subst el0A
  have el1A := el1A.symm
  subst el1A
  have ih := LX6_loadNodes_go  (α := α) (F := F) (v := v) (Ln := Ln) (Φ := Φ) (V1 := V1) F
  unfold mX6_loadNodes mX6_loadNodes_s at h
  unfold rX6_loadNodes rX6_loadNodes_s
  obtain ⟨V50, eV50, h⟩ := mLt_some h
  refine mU_F eV50 R (by decide) rfl (by rw [show gEntry_size S (α l1A) = V.fI l1A 1 from (mg_I (i := l1A) R (mO3 sl1A) rfl 1)]) (fun S50 R50 F50 => ?_)
  exact ih.1 _ _ _ _ R50 sl1A h (fun S1 R1 F1 => k S1 R1 (F50.tr F1))
def mX7_canBeAlone (F : Nat) (l1I : Int32) (l2I : Int32) (V : mV) : Option Int32 :=
  (mLt (((1 : Int32) <<< (l1I &&& 31)) - (1 : Int32)) fun x1 => (if (x1 &&& (((1 : Int32) <<< (l2I &&& 31)) ^^^ (-1 : Int32))) < 0 ∨ 512 ≤ ((x1 &&& (((1 : Int32) <<< (l2I &&& 31)) ^^^ (-1 : Int32)))).toNatClampNeg then none else (if x1 < 0 ∨ 512 ≤ (x1).toNatClampNeg then none else (if (V.rI 20 ((x1 &&& (((1 : Int32) <<< (l2I &&& 31)) ^^^ (-1 : Int32)))).toNatClampNeg) = (V.rI 20 (x1).toNatClampNeg) then some ((1 : Int32)) else some ((0 : Int32))))))
set_option maxHeartbeats 4000000 in
set_option maxRecDepth 100000 in
theorem LX7_canBeAlone {α : Nat → Nat} {F : Nat} {S : wPS} {Ln : Nat → Nat} {V : mV} {v : Int32} {Φ : (Int32 → wPS → Prop)} {l0Ax : Nat} {l1Ix l1I : Int32} {l2Ix l2I : Int32} (h : mX7_canBeAlone F l1I l2I V = some v) (R : mRel α S Ln V) (el0A : l0Ax = α 2) (el1I : l1Ix = l1I) (el2I : l2Ix = l2I) (k : (Φ v S)) : rX7_canBeAlone F l0Ax l1Ix l2Ix S Φ := by
  have el0A := el0A.symm
  subst el0A
  have el1I := el1I.symm
  subst el1I
  have el2I := el2I.symm
  subst el2I
  unfold mX7_canBeAlone at h
  unfold rX7_canBeAlone
  refine mLet h rfl (fun x1 ex1 h => ?_)
  refine mGd h (by rw [show S.len (wkAd (gNetworks_best S (α 2))) = 512 from (mg_len (i := 20) R (mA13 rfl) (mg_A (t := 20) R rfl rfl))]) (fun c1 h => ?_)
  refine mGd h (by rw [show S.len (wkAd (gNetworks_best S (α 2))) = 512 from (mg_len (i := 20) R (mA13 rfl) (mg_A (t := 20) R rfl rfl))]) (fun c2 h => ?_)
  refine mIf h (by rw [show S.rI (wkAd (gNetworks_best S (α 2))) ((x1 &&& (((1 : Int32) <<< (l2I &&& 31)) ^^^ (-1 : Int32)))).toNatClampNeg = V.rI 20 ((x1 &&& (((1 : Int32) <<< (l2I &&& 31)) ^^^ (-1 : Int32)))).toNatClampNeg from (mg_rI (i := 20) R (mA13 rfl) (mg_A (t := 20) R rfl rfl) rfl), show S.rI (wkAd (gNetworks_best S (α 2))) (x1).toNatClampNeg = V.rI 20 (x1).toNatClampNeg from (mg_rI (i := 20) R (mA13 rfl) (mg_A (t := 20) R rfl rfl) rfl)]) (fun c3 h => ?_) (fun c3 h => ?_)
  · cases h
    exact k
  · cases h
    exact k
def mX7_loadFlows_b0 (F : Nat) (rec : Nat → Nat → Int32 → mV → Option (Unit × mV)) (l1A : Nat) (l2I : Int32) (V : mV) : Option (Unit × mV) :=
  (if (V.fI 2 9) ≤ l2I then some ((), V) else (mBN (mX3_at F l1A (l2I) ((0 : Int32)) V) fun v2 => (if l2I < 0 ∨ 10 ≤ (l2I).toNatClampNeg then none else (mLt (mI V 21 (l2I) (v2)) fun V8 => (mBN (mX3_at F l1A (l2I) ((1 : Int32)) V8) fun v9 => (if l2I < 0 ∨ 10 ≤ (l2I).toNatClampNeg then none else (mLt (mI V8 22 (l2I) (v9)) fun V15 => (mBN (mX3_at F l1A (l2I) ((2 : Int32)) V15) fun v16 => (if l2I < 0 ∨ 10 ≤ (l2I).toNatClampNeg then none else (mLt (mI V15 23 (l2I) (v16)) fun V22 => (mLt (l2I + (1 : Int32)) fun x23 => (rec 0 l1A (x23) V22))))))))))))
def mX7_loadFlows_go (F : Nat) : Nat → Nat → Nat → Int32 → mV → Option (Unit × mV)
  | 0, _, _, _, _ => none
  | k' + 1, lab, l1A, l2I, V => if lab = 0 then mX7_loadFlows_b0 F (mX7_loadFlows_go F k') l1A l2I V else none
def mX7_loadFlows_s (F : Nat) (rec : Nat → Nat → Int32 → mV → Option (Unit × mV)) (l1A : Nat) (V : mV) : Option (Unit × mV) :=
  (mLt (mF V 2 8 ((V.fI l1A 1))) fun V24 => (mLt (mF V24 2 9 ((V24.fI l1A 6))) fun V25 => (rec 0 l1A ((0 : Int32)) V25)))
def mX7_loadFlows (F : Nat) (l1A : Nat) (V : mV) : Option (Unit × mV) := mX7_loadFlows_s F (mX7_loadFlows_go F F) l1A V
set_option maxHeartbeats 4000000 in
set_option maxRecDepth 100000 in
theorem LX7_loadFlows_go {α : Nat → Nat} {F : Nat} {Ln : Nat → Nat} {v : Unit} {V1 : mV} {Φ : (Unit → wPS → Prop)} : ∀ k' : Nat, (∀ (l1A : Nat) (l2I : Int32) (S : wPS) (V : mV) , mRel α S Ln V → mK l1A = 3 → mX7_loadFlows_go F k' 0 l1A l2I V = some (v, V1) → (∀ S1, mRel α S1 Ln V1 → mFr α S S1 → Φ v S1) → rX7_loadFlows_go F k' 0 (α 2) (α l1A) l2I S Φ) := by
  intro k'
  induction k' with
  | zero => exact (fun _ _ _ _ _ _ h _ => by cases h)
  | succ k' ih =>
    intro l1A l2I S V R sl1A h k
    rw [mX7_loadFlows_go, if_pos rfl] at h
    rw [rX7_loadFlows_go, if_pos rfl]
    unfold mX7_loadFlows_b0 at h
    unfold rX7_loadFlows_b0
    refine mIf h (by rw [show gNetworks_itemCount S (α 2) = V.fI 2 9 from (mg_I (i := 2) R (by decide) rfl 9)]) (fun c1 h => ?_) (fun c1 h => ?_)
    · obtain ⟨rfl, rfl⟩ := mRW h
      exact k _ R mFr.rf
    · obtain ⟨v2, hv2, h⟩ := mBN_some h
      refine LX3_at hv2 R sl1A rfl rfl rfl ?_
      refine mGd h (by rw [show S.len (wkAd (gNetworks_from S (α 2))) = 10 from (mg_len (i := 21) R (mA13 rfl) (mg_A (t := 21) R rfl rfl))]) (fun c2 h => ?_)
      obtain ⟨V8, eV8, h⟩ := mLt_some h
      refine mU_I eV8 R (mA13 rfl) (mg_A (t := 21) R rfl rfl) rfl rfl (fun S8 R8 F8 => ?_)
      obtain ⟨v9, hv9, h⟩ := mBN_some h
      refine LX3_at hv9 R8 sl1A rfl rfl rfl ?_
      refine mGd h (by rw [show S8.len (wkAd (gNetworks_to S8 (α 2))) = 10 from (mg_len (i := 22) R8 (mA13 rfl) (mg_A (t := 22) R8 rfl rfl))]) (fun c3 h => ?_)
      obtain ⟨V15, eV15, h⟩ := mLt_some h
      refine mU_I eV15 R8 (mA13 rfl) (mg_A (t := 22) R8 rfl rfl) rfl rfl (fun S15 R15 F15 => ?_)
      obtain ⟨v16, hv16, h⟩ := mBN_some h
      refine LX3_at hv16 R15 sl1A rfl rfl rfl ?_
      refine mGd h (by rw [show S15.len (wkAd (gNetworks_caps S15 (α 2))) = 10 from (mg_len (i := 23) R15 (mA13 rfl) (mg_A (t := 23) R15 rfl rfl))]) (fun c4 h => ?_)
      obtain ⟨V22, eV22, h⟩ := mLt_some h
      refine mU_I eV22 R15 (mA13 rfl) (mg_A (t := 23) R15 rfl rfl) rfl rfl (fun S22 R22 F22 => ?_)
      refine mLet h rfl (fun x23 ex23 h => ?_)
      exact ih _ _ _ _ R22 sl1A h (fun S1 R1 F1 => k S1 R1 (F8.tr (F15.tr (F22.tr F1))))
set_option maxHeartbeats 4000000 in
set_option maxRecDepth 100000 in
theorem LX7_loadFlows {α : Nat → Nat} {F : Nat} {S : wPS} {Ln : Nat → Nat} {V V1 : mV} {v : Unit} {Φ : (Unit → wPS → Prop)} {l0Ax : Nat} {l1Ax : Nat} {l1A : Nat} (h : mX7_loadFlows F l1A V = some (v, V1)) (R : mRel α S Ln V) (sl1A : mK l1A = 3) (el0A : l0Ax = α 2) (el1A : l1Ax = α l1A) (k : (∀ S1, mRel α S1 Ln V1 → mFr α S S1 → Φ v S1)) : rX7_loadFlows F l0Ax l1Ax S Φ := by
  have el0A := el0A.symm
  subst el0A
  have el1A := el1A.symm
  subst el1A
  have ih := LX7_loadFlows_go  (α := α) (F := F) (v := v) (Ln := Ln) (Φ := Φ) (V1 := V1) F
  unfold mX7_loadFlows mX7_loadFlows_s at h
  unfold rX7_loadFlows rX7_loadFlows_s
  obtain ⟨V24, eV24, h⟩ := mLt_some h
  refine mU_F eV24 R (by decide) rfl (by rw [show gEntry_size S (α l1A) = V.fI l1A 1 from (mg_I (i := l1A) R (mO3 sl1A) rfl 1)]) (fun S24 R24 F24 => ?_)
  obtain ⟨V25, eV25, h⟩ := mLt_some h
  refine mU_F eV25 R24 (by decide) rfl (by rw [show gEntry_itemCount S24 (α l1A) = V24.fI l1A 6 from (mg_I (i := l1A) R24 (mO3 sl1A) rfl 6)]) (fun S25 R25 F25 => ?_)
  exact ih _ _ _ _ R25 sl1A h (fun S1 R1 F1 => k S1 R1 (F24.tr (F25.tr F1)))
def mX7_goBack (F : Nat) (l1I : Int32) (V : mV) : Option (Int32 × mV) :=
  (if l1I < 0 ∨ 7 ≤ (l1I).toNatClampNeg then none else (mLt ((V.rI 25 (l1I).toNatClampNeg) / (2 : Int32)) fun x2 => (if l1I < 0 ∨ 7 ≤ (l1I).toNatClampNeg then none else (if ((V.rI 25 (l1I).toNatClampNeg) - (V.rI 25 (l1I).toNatClampNeg) / (2 : Int32) * (2 : Int32)) = 0 then (if x2 < 0 ∨ 10 ≤ (x2).toNatClampNeg then none else (if x2 < 0 ∨ 10 ≤ (x2).toNatClampNeg then none else (mLt (mI V 24 (x2) (((V.rI 24 (x2).toNatClampNeg) + (1 : Int32)))) fun V11 => (if x2 < 0 ∨ 10 ≤ (x2).toNatClampNeg then none else some ((V11.rI 21 (x2).toNatClampNeg), V11))))) else (if x2 < 0 ∨ 10 ≤ (x2).toNatClampNeg then none else (if x2 < 0 ∨ 10 ≤ (x2).toNatClampNeg then none else (mLt (mI V 24 (x2) (((V.rI 24 (x2).toNatClampNeg) - (1 : Int32)))) fun V7 => (if x2 < 0 ∨ 10 ≤ (x2).toNatClampNeg then none else some ((V7.rI 22 (x2).toNatClampNeg), V7)))))))))
set_option maxHeartbeats 4000000 in
set_option maxRecDepth 100000 in
theorem LX7_goBack {α : Nat → Nat} {F : Nat} {S : wPS} {Ln : Nat → Nat} {V V1 : mV} {v : Int32} {Φ : (Int32 → wPS → Prop)} {l0Ax : Nat} {l1Ix l1I : Int32} (h : mX7_goBack F l1I V = some (v, V1)) (R : mRel α S Ln V) (el0A : l0Ax = α 2) (el1I : l1Ix = l1I) (k : (∀ S1, mRel α S1 Ln V1 → mFr α S S1 → Φ v S1)) : rX7_goBack F l0Ax l1Ix S Φ := by
  have el0A := el0A.symm
  subst el0A
  have el1I := el1I.symm
  subst el1I
  unfold mX7_goBack at h
  unfold rX7_goBack
  refine mGd h (by rw [show S.len (wkAd (gNetworks_via S (α 2))) = 7 from (mg_len (i := 25) R (mA13 rfl) (mg_A (t := 25) R rfl rfl))]) (fun c1 h => ?_)
  refine mLet h (by rw [show S.rI (wkAd (gNetworks_via S (α 2))) (l1I).toNatClampNeg = V.rI 25 (l1I).toNatClampNeg from (mg_rI (i := 25) R (mA13 rfl) (mg_A (t := 25) R rfl rfl) rfl)]) (fun x2 ex2 h => ?_)
  refine mGd h (by rw [show S.len (wkAd (gNetworks_via S (α 2))) = 7 from (mg_len (i := 25) R (mA13 rfl) (mg_A (t := 25) R rfl rfl))]) (fun c2 h => ?_)
  refine mIf h (by rw [show S.rI (wkAd (gNetworks_via S (α 2))) (l1I).toNatClampNeg = V.rI 25 (l1I).toNatClampNeg from (mg_rI (i := 25) R (mA13 rfl) (mg_A (t := 25) R rfl rfl) rfl)]) (fun c3 h => ?_) (fun c3 h => ?_)
  · refine mGd h (by rw [show S.len (wkAd (gNetworks_flow S (α 2))) = 10 from (mg_len (i := 24) R (mA13 rfl) (mg_A (t := 24) R rfl rfl))]) (fun c4 h => ?_)
    refine mGd h (by rw [show S.len (wkAd (gNetworks_flow S (α 2))) = 10 from (mg_len (i := 24) R (mA13 rfl) (mg_A (t := 24) R rfl rfl))]) (fun c5 h => ?_)
    obtain ⟨V11, eV11, h⟩ := mLt_some h
    refine mU_I eV11 R (mA13 rfl) (mg_A (t := 24) R rfl rfl) rfl (by rw [show S.rI (wkAd (gNetworks_flow S (α 2))) (x2).toNatClampNeg = V.rI 24 (x2).toNatClampNeg from (mg_rI (i := 24) R (mA13 rfl) (mg_A (t := 24) R rfl rfl) rfl)]) (fun S11 R11 F11 => ?_)
    refine mGd h (by rw [show S11.len (wkAd (gNetworks_from S11 (α 2))) = 10 from (mg_len (i := 21) R11 (mA13 rfl) (mg_A (t := 21) R11 rfl rfl))]) (fun c6 h => ?_)
    obtain ⟨rfl, rfl⟩ := mRW h
    rw [show S11.rI (wkAd (gNetworks_from S11 (α 2))) (x2).toNatClampNeg = V11.rI 21 (x2).toNatClampNeg from (mg_rI (i := 21) R11 (mA13 rfl) (mg_A (t := 21) R11 rfl rfl) rfl)]
    exact k _ R11 F11
  · refine mGd h (by rw [show S.len (wkAd (gNetworks_flow S (α 2))) = 10 from (mg_len (i := 24) R (mA13 rfl) (mg_A (t := 24) R rfl rfl))]) (fun c7 h => ?_)
    refine mGd h (by rw [show S.len (wkAd (gNetworks_flow S (α 2))) = 10 from (mg_len (i := 24) R (mA13 rfl) (mg_A (t := 24) R rfl rfl))]) (fun c8 h => ?_)
    obtain ⟨V7, eV7, h⟩ := mLt_some h
    refine mU_I eV7 R (mA13 rfl) (mg_A (t := 24) R rfl rfl) rfl (by rw [show S.rI (wkAd (gNetworks_flow S (α 2))) (x2).toNatClampNeg = V.rI 24 (x2).toNatClampNeg from (mg_rI (i := 24) R (mA13 rfl) (mg_A (t := 24) R rfl rfl) rfl)]) (fun S7 R7 F7 => ?_)
    refine mGd h (by rw [show S7.len (wkAd (gNetworks_to S7 (α 2))) = 10 from (mg_len (i := 22) R7 (mA13 rfl) (mg_A (t := 22) R7 rfl rfl))]) (fun c9 h => ?_)
    obtain ⟨rfl, rfl⟩ := mRW h
    rw [show S7.rI (wkAd (gNetworks_to S7 (α 2))) (x2).toNatClampNeg = V7.rI 22 (x2).toNatClampNeg from (mg_rI (i := 22) R7 (mA13 rfl) (mg_A (t := 22) R7 rfl rfl) rfl)]
    exact k _ R7 F7
def mX8_rightSide (F : Nat) (l0A : Nat) (l1I : Int32) (V : mV) : Option Int32 :=
  (if l1I = ((V.fI l0A 6) - (1 : Int32)) then some ((V.fI l0A 8)) else (mBN (mX3_at F l0A (l1I) ((4 : Int32)) V) fun v2 => some (v2)))
set_option maxHeartbeats 4000000 in
set_option maxRecDepth 100000 in
theorem LX8_rightSide {α : Nat → Nat} {F : Nat} {S : wPS} {Ln : Nat → Nat} {V : mV} {v : Int32} {Φ : (Int32 → wPS → Prop)} {l0Ax : Nat} {l0A : Nat} {l1Ix l1I : Int32} (h : mX8_rightSide F l0A l1I V = some v) (R : mRel α S Ln V) (sl0A : mK l0A = 3) (el0A : l0Ax = α l0A) (el1I : l1Ix = l1I) (k : (Φ v S)) : rX8_rightSide F l0Ax l1Ix S Φ := by
  have el0A := el0A.symm
  subst el0A
  have el1I := el1I.symm
  subst el1I
  unfold mX8_rightSide at h
  unfold rX8_rightSide
  refine mIf h (by rw [show gEntry_itemCount S (α l0A) = V.fI l0A 6 from (mg_I (i := l0A) R (mO3 sl0A) rfl 6)]) (fun c1 h => ?_) (fun c1 h => ?_)
  · cases h
    rw [show gEntry_boundNow S (α l0A) = V.fI l0A 8 from (mg_I (i := l0A) R (mO3 sl0A) rfl 8)]
    exact k
  · obtain ⟨v2, hv2, h⟩ := mBN_some h
    refine LX3_at hv2 R sl0A rfl rfl rfl ?_
    cases h
    exact k
def mX8_takeFromOthers_b0 (F : Nat) (rec : Nat → Int32 → Int32 → Int64 → Int32 → mV → Option (Unit × mV)) (l1I : Int32) (l2I : Int32) (V : mV) : Option (Unit × mV) :=
  (if (V.fI 6 3) ≤ l2I then some ((), V) else (if l2I = l1I then (mLt (l2I + (1 : Int32)) fun x3 => (rec 0 (l1I) (x3) 0 0 V)) else (if l1I < 0 ∨ 4 ≤ (l1I).toNatClampNeg then none else (if (lg_cmp (V.rJ 60 (l1I).toNatClampNeg) (0 : Int64)) = 0 then (mLt (l2I + (1 : Int32)) fun x6 => (rec 0 (l1I) (x6) 0 0 V)) else (if l2I < 0 ∨ 4 ≤ (l2I).toNatClampNeg then none else (if l1I < 0 ∨ 4 ≤ (l1I).toNatClampNeg then none else (if (V.rJ 60 (l1I).toNatClampNeg) = 0 then none else (mLt ((V.rJ 60 (l2I).toNatClampNeg) / (V.rJ 60 (l1I).toNatClampNeg)) fun x10 => (if l2I < 0 ∨ 4 ≤ (l2I).toNatClampNeg then none else (if l1I < 0 ∨ 4 ≤ (l1I).toNatClampNeg then none else (if l2I < 0 ∨ 4 ≤ (l2I).toNatClampNeg then none else (mLt (mJ V 60 (l2I) (((V.rJ 60 (l2I).toNatClampNeg) - (x10 * (V.rJ 60 (l1I).toNatClampNeg))))) fun V14 => (rec 1 (l1I) (l2I) (x10) ((0 : Int32)) V14)))))))))))))
def mX8_takeFromOthers_b1 (F : Nat) (rec : Nat → Int32 → Int32 → Int64 → Int32 → mV → Option (Unit × mV)) (l1I : Int32) (l2I : Int32) (l3J : Int64) (l5I : Int32) (V : mV) : Option (Unit × mV) :=
  (if (4 : Int32) ≤ l5I then (mLt (l2I + (1 : Int32)) fun x16 => (rec 0 (l1I) (x16) 0 0 V)) else (if l2I < 0 ∨ 4 ≤ (l2I).toNatClampNeg then none else (if l5I < 0 ∨ 4 ≤ (l5I).toNatClampNeg then none else (if l1I < 0 ∨ 4 ≤ (l1I).toNatClampNeg then none else (if l5I < 0 ∨ 4 ≤ (l5I).toNatClampNeg then none else (if l5I < 0 ∨ 4 ≤ (l5I).toNatClampNeg then none else (mLt (mJ V (56 + (l2I).toNatClampNeg) (l5I) (((V.rJ (56 + (l2I).toNatClampNeg) (l5I).toNatClampNeg) - (l3J * (V.rJ (56 + (l1I).toNatClampNeg) (l5I).toNatClampNeg))))) fun V24 => (mLt (l5I + (1 : Int32)) fun x25 => (rec 1 (l1I) (l2I) (l3J) (x25) V24)))))))))
def mX8_takeFromOthers_go (F : Nat) : Nat → Nat → Int32 → Int32 → Int64 → Int32 → mV → Option (Unit × mV)
  | 0, _, _, _, _, _, _ => none
  | k' + 1, lab, l1I, l2I, l3J, l5I, V => if lab = 0 then mX8_takeFromOthers_b0 F (mX8_takeFromOthers_go F k') l1I l2I V else if lab = 1 then mX8_takeFromOthers_b1 F (mX8_takeFromOthers_go F k') l1I l2I l3J l5I V else none
def mX8_takeFromOthers_s (F : Nat) (rec : Nat → Int32 → Int32 → Int64 → Int32 → mV → Option (Unit × mV)) (l1I : Int32) (V : mV) : Option (Unit × mV) :=
  (rec 0 (l1I) ((0 : Int32)) 0 0 V)
def mX8_takeFromOthers (F : Nat) (l1I : Int32) (V : mV) : Option (Unit × mV) := mX8_takeFromOthers_s F (mX8_takeFromOthers_go F F) l1I V
set_option maxHeartbeats 4000000 in
set_option maxRecDepth 100000 in
theorem LX8_takeFromOthers_go {α : Nat → Nat} {F : Nat} {Ln : Nat → Nat} {v : Unit} {V1 : mV} {Φ : (Unit → wPS → Prop)} : ∀ k' : Nat, (∀ (l1I : Int32) (l2I : Int32) (S : wPS) (V : mV) , mRel α S Ln V → mX8_takeFromOthers_go F k' 0 l1I l2I 0 0 V = some (v, V1) → (∀ S1, mRel α S1 Ln V1 → mFr α S S1 → Φ v S1) → rX8_takeFromOthers_go F k' 0 (α 6) l1I l2I 0 0 S Φ) ∧ (∀ (l1I : Int32) (l2I : Int32) (l3J : Int64) (l5I : Int32) (S : wPS) (V : mV) , mRel α S Ln V → mX8_takeFromOthers_go F k' 1 l1I l2I l3J l5I V = some (v, V1) → (∀ S1, mRel α S1 Ln V1 → mFr α S S1 → Φ v S1) → rX8_takeFromOthers_go F k' 1 (α 6) l1I l2I l3J l5I S Φ) := by
  intro k'
  induction k' with
  | zero => exact ⟨(fun _ _ _ _ _ h _ => by cases h), (fun _ _ _ _ _ _ _ h _ => by cases h)⟩
  | succ k' ih =>
    refine ⟨?_, ?_⟩
    · intro l1I l2I S V R h k
      rw [mX8_takeFromOthers_go, if_pos rfl] at h
      rw [rX8_takeFromOthers_go, if_pos rfl]
      unfold mX8_takeFromOthers_b0 at h
      unfold rX8_takeFromOthers_b0
      refine mIf h (by rw [show gNumbers_basisCount S (α 6) = V.fI 6 3 from (mg_I (i := 6) R (by decide) rfl 3)]) (fun c1 h => ?_) (fun c1 h => ?_)
      · obtain ⟨rfl, rfl⟩ := mRW h
        exact k _ R mFr.rf
      · refine mIf h Iff.rfl (fun c2 h => ?_) (fun c2 h => ?_)
        · refine mLet h rfl (fun x3 ex3 h => ?_)
          exact ih.1 _ _ _ _ R h (fun S1 R1 F1 => k S1 R1 F1)
        · refine mGd h (by rw [show S.len (wkAd (gNumbers_amounts S (α 6))) = 4 from (mg_len (i := 60) R (mA14 rfl) (mg_A (t := 60) R rfl rfl))]) (fun c3 h => ?_)
          refine mIf h (by rw [show S.rJ (wkAd (gNumbers_amounts S (α 6))) (l1I).toNatClampNeg = V.rJ 60 (l1I).toNatClampNeg from (mg_rJ (i := 60) R (mA14 rfl) (mg_A (t := 60) R rfl rfl) rfl)]) (fun c4 h => ?_) (fun c4 h => ?_)
          · refine mLet h rfl (fun x6 ex6 h => ?_)
            exact ih.1 _ _ _ _ R h (fun S1 R1 F1 => k S1 R1 F1)
          · refine mGd h (by rw [show S.len (wkAd (gNumbers_amounts S (α 6))) = 4 from (mg_len (i := 60) R (mA14 rfl) (mg_A (t := 60) R rfl rfl))]) (fun c5 h => ?_)
            refine mGd h (by rw [show S.len (wkAd (gNumbers_amounts S (α 6))) = 4 from (mg_len (i := 60) R (mA14 rfl) (mg_A (t := 60) R rfl rfl))]) (fun c6 h => ?_)
            refine mGd h (by rw [show S.rJ (wkAd (gNumbers_amounts S (α 6))) (l1I).toNatClampNeg = V.rJ 60 (l1I).toNatClampNeg from (mg_rJ (i := 60) R (mA14 rfl) (mg_A (t := 60) R rfl rfl) rfl)]) (fun c7 h => ?_)
            refine mLet h (by rw [show S.rJ (wkAd (gNumbers_amounts S (α 6))) (l2I).toNatClampNeg = V.rJ 60 (l2I).toNatClampNeg from (mg_rJ (i := 60) R (mA14 rfl) (mg_A (t := 60) R rfl rfl) rfl), show S.rJ (wkAd (gNumbers_amounts S (α 6))) (l1I).toNatClampNeg = V.rJ 60 (l1I).toNatClampNeg from (mg_rJ (i := 60) R (mA14 rfl) (mg_A (t := 60) R rfl rfl) rfl)]) (fun x10 ex10 h => ?_)
            refine mGd h (by rw [show S.len (wkAd (gNumbers_amounts S (α 6))) = 4 from (mg_len (i := 60) R (mA14 rfl) (mg_A (t := 60) R rfl rfl))]) (fun c8 h => ?_)
            refine mGd h (by rw [show S.len (wkAd (gNumbers_amounts S (α 6))) = 4 from (mg_len (i := 60) R (mA14 rfl) (mg_A (t := 60) R rfl rfl))]) (fun c9 h => ?_)
            refine mGd h (by rw [show S.len (wkAd (gNumbers_amounts S (α 6))) = 4 from (mg_len (i := 60) R (mA14 rfl) (mg_A (t := 60) R rfl rfl))]) (fun c10 h => ?_)
            obtain ⟨V14, eV14, h⟩ := mLt_some h
            refine mU_J eV14 R (mA14 rfl) (mg_A (t := 60) R rfl rfl) rfl (by rw [show S.rJ (wkAd (gNumbers_amounts S (α 6))) (l2I).toNatClampNeg = V.rJ 60 (l2I).toNatClampNeg from (mg_rJ (i := 60) R (mA14 rfl) (mg_A (t := 60) R rfl rfl) rfl), show S.rJ (wkAd (gNumbers_amounts S (α 6))) (l1I).toNatClampNeg = V.rJ 60 (l1I).toNatClampNeg from (mg_rJ (i := 60) R (mA14 rfl) (mg_A (t := 60) R rfl rfl) rfl)]) (fun S14 R14 F14 => ?_)
            exact ih.2 _ _ _ _ _ _ R14 h (fun S1 R1 F1 => k S1 R1 (F14.tr F1))
    · intro l1I l2I l3J l5I S V R h k
      rw [mX8_takeFromOthers_go, if_neg (by decide), if_pos rfl] at h
      rw [rX8_takeFromOthers_go, if_neg (by decide), if_pos rfl]
      unfold mX8_takeFromOthers_b1 at h
      unfold rX8_takeFromOthers_b1
      refine mIf h Iff.rfl (fun c11 h => ?_) (fun c11 h => ?_)
      · refine mLet h rfl (fun x16 ex16 h => ?_)
        exact ih.1 _ _ _ _ R h (fun S1 R1 F1 => k S1 R1 F1)
      · refine mGd h (by rw [show S.len (wkAd (gNumbers_basis S (α 6))) = 4 from (mg_len (i := 55) R (mAr (by decide)) (mg_A (t := 55) R rfl rfl))]) (fun c12 h => ?_)
        refine mGd h (by rw [show S.len (wkAd (S.rA (wkAd (gNumbers_basis S (α 6))) (l2I).toNatClampNeg)) = 4 from ((mg_len R (mA14 (mKA55 (Nat.lt_of_not_le (fun z => c12 (Or.inr z))))) (mg_RA R (mRA55 (Nat.lt_of_not_le (fun z => c12 (Or.inr z)))) (mg_A (t := 55) R rfl rfl) rfl)).trans (mLA55 (Nat.lt_of_not_le (fun z => c12 (Or.inr z)))))]) (fun c13 h => ?_)
        refine mGd h (by rw [show S.len (wkAd (gNumbers_basis S (α 6))) = 4 from (mg_len (i := 55) R (mAr (by decide)) (mg_A (t := 55) R rfl rfl))]) (fun c14 h => ?_)
        refine mGd h (by rw [show S.len (wkAd (S.rA (wkAd (gNumbers_basis S (α 6))) (l1I).toNatClampNeg)) = 4 from ((mg_len R (mA14 (mKA55 (Nat.lt_of_not_le (fun z => c14 (Or.inr z))))) (mg_RA R (mRA55 (Nat.lt_of_not_le (fun z => c14 (Or.inr z)))) (mg_A (t := 55) R rfl rfl) rfl)).trans (mLA55 (Nat.lt_of_not_le (fun z => c14 (Or.inr z)))))]) (fun c15 h => ?_)
        refine mGd h (by rw [show S.len (wkAd (S.rA (wkAd (gNumbers_basis S (α 6))) (l2I).toNatClampNeg)) = 4 from ((mg_len R (mA14 (mKA55 (Nat.lt_of_not_le (fun z => c12 (Or.inr z))))) (mg_RA R (mRA55 (Nat.lt_of_not_le (fun z => c12 (Or.inr z)))) (mg_A (t := 55) R rfl rfl) rfl)).trans (mLA55 (Nat.lt_of_not_le (fun z => c12 (Or.inr z)))))]) (fun c16 h => ?_)
        obtain ⟨V24, eV24, h⟩ := mLt_some h
        refine mU_J eV24 R (mA14 (mKA55 (Nat.lt_of_not_le (fun z => c12 (Or.inr z))))) (mg_RA R (mRA55 (Nat.lt_of_not_le (fun z => c12 (Or.inr z)))) (mg_A (t := 55) R rfl rfl) rfl) rfl (by rw [show S.rJ (wkAd (S.rA (wkAd (gNumbers_basis S (α 6))) (l2I).toNatClampNeg)) (l5I).toNatClampNeg = V.rJ (56 + (l2I).toNatClampNeg) (l5I).toNatClampNeg from (mg_rJ (i := (56 + (l2I).toNatClampNeg)) R (mA14 (mKA55 (Nat.lt_of_not_le (fun z => c12 (Or.inr z))))) (mg_RA R (mRA55 (Nat.lt_of_not_le (fun z => c12 (Or.inr z)))) (mg_A (t := 55) R rfl rfl) rfl) rfl), show S.rJ (wkAd (S.rA (wkAd (gNumbers_basis S (α 6))) (l1I).toNatClampNeg)) (l5I).toNatClampNeg = V.rJ (56 + (l1I).toNatClampNeg) (l5I).toNatClampNeg from (mg_rJ (i := (56 + (l1I).toNatClampNeg)) R (mA14 (mKA55 (Nat.lt_of_not_le (fun z => c14 (Or.inr z))))) (mg_RA R (mRA55 (Nat.lt_of_not_le (fun z => c14 (Or.inr z)))) (mg_A (t := 55) R rfl rfl) rfl) rfl)]) (fun S24 R24 F24 => ?_)
        refine mLet h rfl (fun x25 ex25 h => ?_)
        exact ih.2 _ _ _ _ _ _ R24 h (fun S1 R1 F1 => k S1 R1 (F24.tr F1))
set_option maxHeartbeats 4000000 in
set_option maxRecDepth 100000 in
theorem LX8_takeFromOthers {α : Nat → Nat} {F : Nat} {S : wPS} {Ln : Nat → Nat} {V V1 : mV} {v : Unit} {Φ : (Unit → wPS → Prop)} {l0Ax : Nat} {l1Ix l1I : Int32} (h : mX8_takeFromOthers F l1I V = some (v, V1)) (R : mRel α S Ln V) (el0A : l0Ax = α 6) (el1I : l1Ix = l1I) (k : (∀ S1, mRel α S1 Ln V1 → mFr α S S1 → Φ v S1)) : rX8_takeFromOthers F l0Ax l1Ix S Φ := by
  have el0A := el0A.symm
  subst el0A
  have el1I := el1I.symm
  subst el1I
  have ih := LX8_takeFromOthers_go  (α := α) (F := F) (v := v) (Ln := Ln) (Φ := Φ) (V1 := V1) F
  unfold mX8_takeFromOthers mX8_takeFromOthers_s at h
  unfold rX8_takeFromOthers rX8_takeFromOthers_s
  exact ih.1 _ _ _ _ R h (fun S1 R1 F1 => k S1 R1 F1)
end
