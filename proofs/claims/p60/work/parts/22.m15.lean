/-! LIFTED BY PROGRAM (lift.py): X9_addBelow, X9_isLike, X10_loadItems, X10_unusedPoint, X10_writeItems, X10_judgeItems, X10_readCode, X10_isLedWithin, X10_replaceAll. -/
section
def mX9_addBelow (F : Nat) (Ln : Nat → Nat) (l0A : Nat) (l1I : Int32) (l2I : Int32) (V : mV) : Option (Unit × (Nat → Nat) × mV) :=
  (if l1I ≤ (V.fI l0A 1) then some ((), Ln, V) else (mBA (mX9_add F Ln l0A (l2I) V) fun v2 L3 V3 => some ((), L3, V3)))
set_option maxHeartbeats 4000000 in
set_option maxRecDepth 100000 in
theorem MX9_addBelow {F : Nat} {Ln Ln1 : Nat → Nat} {V V1 : mV} {v : Unit} {l0A : Nat} {l1I : Int32} {l2I : Int32} (h : mX9_addBelow F Ln l0A l1I l2I V = some (v, Ln1, V1)) : mP Ln1 ≤ mP Ln := by
  unfold mX9_addBelow at h
  rcases mIf_some h with ⟨_, h⟩ | ⟨_, h⟩
  · cases h
    exact Nat.le_refl _
  · obtain ⟨_, _, _, z1, h⟩ := mBA_some h
    refine Nat.le_trans ?_ (MX9_add z1)
    cases h
    exact Nat.le_refl _
set_option maxHeartbeats 4000000 in
set_option maxRecDepth 100000 in
theorem LX9_addBelow {α : Nat → Nat} {F : Nat} {S : wPS} {Ln Ln1 : Nat → Nat} {V V1 : mV} {v : Unit} {Φ : (Unit → wPS → Prop)} {l0Ax : Nat} {l0A : Nat} {l1Ix l1I : Int32} {l2Ix l2I : Int32} {k0 n0 : Nat} (h : mX9_addBelow F Ln l0A l1I l2I V = some (v, Ln1, V1)) (R : mRel α S Ln V) (sl0A : mK l0A = 9) (el0A : l0Ax = α l0A) (el1I : l1Ix = l1I) (el2I : l2Ix = l2I) (hk : (mP Ln - mP Ln1) / 16 ≤ k0) (hn : mP Ln - mP Ln1 ≤ n0) (k : (∀ S1, mRel α S1 Ln1 V1 → mFr α S S1 → Φ v S1)) : rX9_addBelow F k0 n0 l0Ax l1Ix l2Ix S Φ := by
  have el0A := el0A.symm
  subst el0A
  have el1I := el1I.symm
  subst el1I
  have el2I := el2I.symm
  subst el2I
  unfold mX9_addBelow at h
  unfold rX9_addBelow
  refine mIf h (by rw [show gRow_count S (α l0A) = V.fI l0A 1 from (mg_I (i := l0A) R (mO9 sl0A) rfl 1)]) (fun c2 h => ?_) (fun c2 h => ?_)
  · obtain ⟨rfl, rfl, rfl⟩ := mRA3 h
    exact k _ R mFr.rf
  · obtain ⟨v2, L3, V3, hv2, h⟩ := mBA_some h
    have mv2 : mP L3 ≤ mP Ln := MX9_add hv2
    have qv2 : mP Ln1 ≤ mP L3 := by
      cases h
      exact Nat.le_refl _
    refine ⟨(mP Ln - mP L3) / 16, mP Ln - mP L3, by omega, by omega, ?_⟩
    refine LX9_add hv2 R sl0A rfl rfl (by omega) (by omega) (fun S3 R3 F3 => ?_)
    obtain ⟨rfl, rfl, rfl⟩ := mRA3 h
    exact k _ R3 F3
def mX9_isLike (F : Nat) (Ln : Nat → Nat) (l0A : Nat) (l1A : Nat) (V : mV) : Option Int32 :=
  (if (V.fI l0A 1) = (V.fI l1A 1) then (mBN (mX9_firstUnlike F Ln l0A l1A V) fun v2 => (if v2 = (V.fI l0A 1) then some ((1 : Int32)) else some ((0 : Int32)))) else some ((0 : Int32)))
set_option maxHeartbeats 4000000 in
set_option maxRecDepth 100000 in
theorem LX9_isLike {α : Nat → Nat} {F : Nat} {S : wPS} {Ln : Nat → Nat} {V : mV} {v : Int32} {Φ : (Int32 → wPS → Prop)} {l0Ax : Nat} {l0A : Nat} {l1Ax : Nat} {l1A : Nat} (h : mX9_isLike F Ln l0A l1A V = some v) (R : mRel α S Ln V) (sl0A : mK l0A = 9) (sl1A : mK l1A = 9) (el0A : l0Ax = α l0A) (el1A : l1Ax = α l1A) (k : (Φ v S)) : rX9_isLike F l0Ax l1Ax S Φ := by
  have el0A := el0A.symm
  subst el0A
  have el1A := el1A.symm
  subst el1A
  unfold mX9_isLike at h
  unfold rX9_isLike
  refine mIf h (by rw [show gRow_count S (α l0A) = V.fI l0A 1 from (mg_I (i := l0A) R (mO9 sl0A) rfl 1), show gRow_count S (α l1A) = V.fI l1A 1 from (mg_I (i := l1A) R (mO9 sl1A) rfl 1)]) (fun c1 h => ?_) (fun c1 h => ?_)
  · obtain ⟨v2, hv2, h⟩ := mBN_some h
    refine LX9_firstUnlike hv2 R sl0A sl1A rfl rfl ?_
    refine mIf h (by rw [show gRow_count S (α l0A) = V.fI l0A 1 from (mg_I (i := l0A) R (mO9 sl0A) rfl 1)]) (fun c2 h => ?_) (fun c2 h => ?_)
    · cases h
      exact k
    · cases h
      exact k
  · cases h
    exact k
def mX10_loadItems_b0 (F : Nat) (rec : Nat → Nat → Int32 → mV → Option (Unit × mV)) (l1A : Nat) (l2I : Int32) (V : mV) : Option (Unit × mV) :=
  (if (6 : Int32) ≤ l2I then (rec 1 l1A ((0 : Int32)) V) else (if l2I < 0 ∨ 6 ≤ (l2I).toNatClampNeg then none else (mLt (mI V 76 (l2I) (l2I)) fun V3 => (mLt (l2I + (1 : Int32)) fun x4 => (rec 0 l1A (x4) V3)))))
def mX10_loadItems_b1 (F : Nat) (rec : Nat → Nat → Int32 → mV → Option (Unit × mV)) (l1A : Nat) (l2I : Int32) (V : mV) : Option (Unit × mV) :=
  (if (V.fI 7 11) < l2I then (if (V.fI l1A 6) ≤ 0 then some ((), V) else (mBW (mX10_loadPoints F l1A ((0 : Int32)) 76 V) fun v7 V8 => some ((), V8))) else (if l2I < 0 ∨ 5 ≤ (l2I).toNatClampNeg then none else (mBW (mX10_loadPoints F l1A (l2I) (71 + (l2I).toNatClampNeg) V) fun v14 V15 => (mLt (l2I + (1 : Int32)) fun x19 => (rec 1 l1A (x19) V15)))))
def mX10_loadItems_go (F : Nat) : Nat → Nat → Nat → Int32 → mV → Option (Unit × mV)
  | 0, _, _, _, _ => none
  | k' + 1, lab, l1A, l2I, V => if lab = 0 then mX10_loadItems_b0 F (mX10_loadItems_go F k') l1A l2I V else if lab = 1 then mX10_loadItems_b1 F (mX10_loadItems_go F k') l1A l2I V else none
def mX10_loadItems_s (F : Nat) (rec : Nat → Nat → Int32 → mV → Option (Unit × mV)) (l1A : Nat) (V : mV) : Option (Unit × mV) :=
  (mLt (mF V 7 10 ((V.fI l1A 1))) fun V20 => (mLt (mF V20 7 11 ((if ((V20.fI l1A 6) - (1 : Int32)) < (V20.fI l1A 8) then ((V20.fI l1A 6) - (1 : Int32)) else (V20.fI l1A 8)))) fun V21 => (rec 0 l1A ((0 : Int32)) V21)))
def mX10_loadItems (F : Nat) (l1A : Nat) (V : mV) : Option (Unit × mV) := mX10_loadItems_s F (mX10_loadItems_go F F) l1A V
set_option maxHeartbeats 4000000 in
set_option maxRecDepth 100000 in
theorem LX10_loadItems_go {α : Nat → Nat} {F : Nat} {Ln : Nat → Nat} {v : Unit} {V1 : mV} {Φ : (Unit → wPS → Prop)} : ∀ k' : Nat, (∀ (l1A : Nat) (l2I : Int32) (S : wPS) (V : mV) , mRel α S Ln V → mK l1A = 3 → mX10_loadItems_go F k' 0 l1A l2I V = some (v, V1) → (∀ S1, mRel α S1 Ln V1 → mFr α S S1 → Φ v S1) → rX10_loadItems_go F k' 0 (α 7) (α l1A) l2I S Φ) ∧ (∀ (l1A : Nat) (l2I : Int32) (S : wPS) (V : mV) , mRel α S Ln V → mK l1A = 3 → mX10_loadItems_go F k' 1 l1A l2I V = some (v, V1) → (∀ S1, mRel α S1 Ln V1 → mFr α S S1 → Φ v S1) → rX10_loadItems_go F k' 1 (α 7) (α l1A) l2I S Φ) := by
  intro k'
  induction k' with
  | zero => exact ⟨(fun _ _ _ _ _ _ h _ => by cases h), (fun _ _ _ _ _ _ h _ => by cases h)⟩
  | succ k' ih =>
    refine ⟨?_, ?_⟩
    · intro l1A l2I S V R sl1A h k
      rw [mX10_loadItems_go, if_pos rfl] at h
      rw [rX10_loadItems_go, if_pos rfl]
      unfold mX10_loadItems_b0 at h
      unfold rX10_loadItems_b0
      refine mIf h Iff.rfl (fun c1 h => ?_) (fun c1 h => ?_)
      · exact ih.2 _ _ _ _ R sl1A h (fun S1 R1 F1 => k S1 R1 F1)
      · refine mGd h (by rw [show S.len (wkAd (gWords_goal S (α 7))) = 6 from (mg_len (i := 76) R (mA13 rfl) (mg_A (t := 76) R rfl rfl))]) (fun c2 h => ?_)
        obtain ⟨V3, eV3, h⟩ := mLt_some h
        refine mU_I eV3 R (mA13 rfl) (mg_A (t := 76) R rfl rfl) rfl rfl (fun S3 R3 F3 => ?_)
        refine mLet h rfl (fun x4 ex4 h => ?_)
        exact ih.1 _ _ _ _ R3 sl1A h (fun S1 R1 F1 => k S1 R1 (F3.tr F1))
    · intro l1A l2I S V R sl1A h k
      rw [mX10_loadItems_go, if_neg (by decide), if_pos rfl] at h
      rw [rX10_loadItems_go, if_neg (by decide), if_pos rfl]
      unfold mX10_loadItems_b1 at h
      unfold rX10_loadItems_b1
      refine mIf h (by rw [show gWords_lastUsed S (α 7) = V.fI 7 11 from (mg_I (i := 7) R (by decide) rfl 11)]) (fun c3 h => ?_) (fun c3 h => ?_)
      · refine mIf h (by rw [show gEntry_itemCount S (α l1A) = V.fI l1A 6 from (mg_I (i := l1A) R (mO3 sl1A) rfl 6)]) (fun c4 h => ?_) (fun c4 h => ?_)
        · obtain ⟨rfl, rfl⟩ := mRW h
          exact k _ R mFr.rf
        · obtain ⟨v7, V8, hv7, h⟩ := mBW_some h
          refine LX10_loadPoints hv7 R sl1A rfl rfl rfl (mg_A (t := 76) R rfl rfl) (fun S8 R8 F8 => ?_)
          obtain ⟨rfl, rfl⟩ := mRW h
          exact k _ R8 F8
      · refine mGd h (by rw [show S.len (wkAd (gWords_leads S (α 7))) = 5 from (mg_len (i := 70) R (mAr (by decide)) (mg_A (t := 70) R rfl rfl))]) (fun c5 h => ?_)
        obtain ⟨v14, V15, hv14, h⟩ := mBW_some h
        refine LX10_loadPoints hv14 R sl1A (mKA70 (Nat.lt_of_not_le (fun z => c5 (Or.inr z)))) rfl rfl (mg_RA R (mRA70 (Nat.lt_of_not_le (fun z => c5 (Or.inr z)))) (mg_A (t := 70) R rfl rfl) rfl) (fun S15 R15 F15 => ?_)
        refine mLet h rfl (fun x19 ex19 h => ?_)
        exact ih.2 _ _ _ _ R15 sl1A h (fun S1 R1 F1 => k S1 R1 (F15.tr F1))
set_option maxHeartbeats 4000000 in
set_option maxRecDepth 100000 in
theorem LX10_loadItems {α : Nat → Nat} {F : Nat} {S : wPS} {Ln : Nat → Nat} {V V1 : mV} {v : Unit} {Φ : (Unit → wPS → Prop)} {l0Ax : Nat} {l1Ax : Nat} {l1A : Nat} (h : mX10_loadItems F l1A V = some (v, V1)) (R : mRel α S Ln V) (sl1A : mK l1A = 3) (el0A : l0Ax = α 7) (el1A : l1Ax = α l1A) (k : (∀ S1, mRel α S1 Ln V1 → mFr α S S1 → Φ v S1)) : rX10_loadItems F l0Ax l1Ax S Φ := by
  have el0A := el0A.symm
  subst el0A
  have el1A := el1A.symm
  subst el1A
  have ih := LX10_loadItems_go  (α := α) (F := F) (v := v) (Ln := Ln) (Φ := Φ) (V1 := V1) F
  unfold mX10_loadItems mX10_loadItems_s at h
  unfold rX10_loadItems rX10_loadItems_s
  obtain ⟨V20, eV20, h⟩ := mLt_some h
  refine mU_F eV20 R (by decide) rfl (by rw [show gEntry_size S (α l1A) = V.fI l1A 1 from (mg_I (i := l1A) R (mO3 sl1A) rfl 1)]) (fun S20 R20 F20 => ?_)
  obtain ⟨V21, eV21, h⟩ := mLt_some h
  refine mU_F eV21 R20 (by decide) rfl (by rw [show gEntry_itemCount S20 (α l1A) = V20.fI l1A 6 from (mg_I (i := l1A) R20 (mO3 sl1A) rfl 6), show gEntry_boundNow S20 (α l1A) = V20.fI l1A 8 from (mg_I (i := l1A) R20 (mO3 sl1A) rfl 8)]) (fun S21 R21 F21 => ?_)
  exact ih.1 _ _ _ _ R21 sl1A h (fun S1 R1 F1 => k S1 R1 (F20.tr (F21.tr F1)))
def mX10_unusedPoint_b0 (F : Nat) (rec : Nat → Int32 → Int32 → Int32 → mV → Option Int32) (l1I : Int32) (l3I : Int32) (l4I : Int32) (V : mV) : Option Int32 :=
  (if (V.fI 7 10) ≤ l4I then some ((0 : Int32)) else (mBN (mX11_has F (l1I) (l4I)) fun v2 => (if v2 = 0 then (if l3I = 0 then some (l4I) else (mLt (l3I + (-1 : Int32)) fun x10 => (mLt (l4I + (1 : Int32)) fun x11 => (rec 0 (l1I) (x10) (x11) V)))) else (mLt (l4I + (1 : Int32)) fun x8 => (rec 0 (l1I) (l3I) (x8) V)))))
def mX10_unusedPoint_go (F : Nat) : Nat → Nat → Int32 → Int32 → Int32 → mV → Option Int32
  | 0, _, _, _, _, _ => none
  | k' + 1, lab, l1I, l3I, l4I, V => if lab = 0 then mX10_unusedPoint_b0 F (mX10_unusedPoint_go F k') l1I l3I l4I V else none
def mX10_unusedPoint_s (F : Nat) (rec : Nat → Int32 → Int32 → Int32 → mV → Option Int32) (l1I : Int32) (l2I : Int32) (V : mV) : Option Int32 :=
  (rec 0 (l1I) (l2I) ((0 : Int32)) V)
def mX10_unusedPoint (F : Nat) (l1I : Int32) (l2I : Int32) (V : mV) : Option Int32 := mX10_unusedPoint_s F (mX10_unusedPoint_go F F) l1I l2I V
set_option maxHeartbeats 4000000 in
set_option maxRecDepth 100000 in
theorem LX10_unusedPoint_go {α : Nat → Nat} {F : Nat} {Ln : Nat → Nat} {v : Int32} {Φ : (Int32 → wPS → Prop)} : ∀ k' : Nat, (∀ (l1I : Int32) (l3I : Int32) (l4I : Int32) (S : wPS) (V : mV) , mRel α S Ln V → mX10_unusedPoint_go F k' 0 l1I l3I l4I V = some v → (Φ v S) → rX10_unusedPoint_go F k' 0 (α 7) l1I l3I l4I S Φ) := by
  intro k'
  induction k' with
  | zero => exact (fun _ _ _ _ _ _ h _ => by cases h)
  | succ k' ih =>
    intro l1I l3I l4I S V R h k
    rw [mX10_unusedPoint_go, if_pos rfl] at h
    rw [rX10_unusedPoint_go, if_pos rfl]
    unfold mX10_unusedPoint_b0 at h
    unfold rX10_unusedPoint_b0
    refine mIf h (by rw [show gWords_size S (α 7) = V.fI 7 10 from (mg_I (i := 7) R (by decide) rfl 10)]) (fun c1 h => ?_) (fun c1 h => ?_)
    · cases h
      exact k
    · obtain ⟨v2, hv2, h⟩ := mBN_some h
      refine LX11_has hv2 rfl rfl ?_
      refine mIf h Iff.rfl (fun c2 h => ?_) (fun c2 h => ?_)
      · refine mIf h Iff.rfl (fun c3 h => ?_) (fun c3 h => ?_)
        · cases h
          exact k
        · refine mLet h rfl (fun x10 ex10 h => ?_)
          refine mLet h rfl (fun x11 ex11 h => ?_)
          exact ih _ _ _ _ _ R h k
      · refine mLet h rfl (fun x8 ex8 h => ?_)
        exact ih _ _ _ _ _ R h k
set_option maxHeartbeats 4000000 in
set_option maxRecDepth 100000 in
theorem LX10_unusedPoint {α : Nat → Nat} {F : Nat} {S : wPS} {Ln : Nat → Nat} {V : mV} {v : Int32} {Φ : (Int32 → wPS → Prop)} {l0Ax : Nat} {l1Ix l1I : Int32} {l2Ix l2I : Int32} (h : mX10_unusedPoint F l1I l2I V = some v) (R : mRel α S Ln V) (el0A : l0Ax = α 7) (el1I : l1Ix = l1I) (el2I : l2Ix = l2I) (k : (Φ v S)) : rX10_unusedPoint F l0Ax l1Ix l2Ix S Φ := by
  have el0A := el0A.symm
  subst el0A
  have el1I := el1I.symm
  subst el1I
  have el2I := el2I.symm
  subst el2I
  have ih := LX10_unusedPoint_go  (α := α) (F := F) (v := v) (Ln := Ln) (Φ := Φ) F
  unfold mX10_unusedPoint mX10_unusedPoint_s at h
  unfold rX10_unusedPoint rX10_unusedPoint_s
  exact ih _ _ _ _ _ R h k
def mX10_writeItems_b0 (F : Nat) (rec : Nat → (Nat → Nat) → Nat → Int32 → Int32 → Int32 → mV → Option (Unit × (Nat → Nat) × mV)) (Ln : Nat → Nat) (l2A : Nat) (l3I : Int32) (l4I : Int32) (V : mV) : Option (Unit × (Nat → Nat) × mV) :=
  (if l4I = 0 then (mLt (l3I - (1 : Int32)) fun x2 => (rec 1 Ln l2A 0 0 (x2) V)) else (if (720 : Int32) ≤ l3I then (mLt (l3I - (1 : Int32)) fun x4 => (rec 1 Ln l2A 0 0 (x4) V)) else (if l4I < 0 ∨ 720 ≤ (l4I).toNatClampNeg then none else (if l3I < 0 ∨ 720 ≤ (l3I).toNatClampNeg then none else (mLt (mI V 79 (l3I) ((V.rI 81 (l4I).toNatClampNeg))) fun V7 => (mLt (l3I + (1 : Int32)) fun x8 => (if l4I < 0 ∨ 720 ≤ (l4I).toNatClampNeg then none else (mLt (V7.rI 80 (l4I).toNatClampNeg) fun x10 => (rec 0 Ln l2A (x8) (x10) 0 V7)))))))))
def mX10_writeItems_b1 (F : Nat) (rec : Nat → (Nat → Nat) → Nat → Int32 → Int32 → Int32 → mV → Option (Unit × (Nat → Nat) × mV)) (Ln : Nat → Nat) (l2A : Nat) (l5I : Int32) (V : mV) : Option (Unit × (Nat → Nat) × mV) :=
  (if l5I < 0 then some ((), Ln, V) else (if l5I < 0 ∨ 720 ≤ (l5I).toNatClampNeg then none else (mBA (mX9_add F Ln l2A ((V.rI 79 (l5I).toNatClampNeg)) V) fun v13 L14 V14 => (mLt (l5I + (-1 : Int32)) fun x18 => (rec 1 L14 l2A 0 0 (x18) V14)))))
def mX10_writeItems_go (F : Nat) : Nat → Nat → (Nat → Nat) → Nat → Int32 → Int32 → Int32 → mV → Option (Unit × (Nat → Nat) × mV)
  | 0, _, _, _, _, _, _, _ => none
  | k' + 1, lab, Ln, l2A, l3I, l4I, l5I, V => if lab = 0 then mX10_writeItems_b0 F (mX10_writeItems_go F k') Ln l2A l3I l4I V else if lab = 1 then mX10_writeItems_b1 F (mX10_writeItems_go F k') Ln l2A l5I V else none
def mX10_writeItems_s (F : Nat) (rec : Nat → (Nat → Nat) → Nat → Int32 → Int32 → Int32 → mV → Option (Unit × (Nat → Nat) × mV)) (Ln : Nat → Nat) (l1I : Int32) (l2A : Nat) (V : mV) : Option (Unit × (Nat → Nat) × mV) :=
  (rec 0 Ln l2A ((0 : Int32)) (l1I) 0 V)
def mX10_writeItems (F : Nat) (Ln : Nat → Nat) (l1I : Int32) (l2A : Nat) (V : mV) : Option (Unit × (Nat → Nat) × mV) := mX10_writeItems_s F (mX10_writeItems_go F F) Ln l1I l2A V
set_option maxHeartbeats 4000000 in
set_option maxRecDepth 100000 in
theorem MX10_writeItems_go {F : Nat} {v : Unit} {Ln1 : Nat → Nat} {V1 : mV} : ∀ k' : Nat, (∀ (l2A : Nat) (l3I : Int32) (l4I : Int32) (Ln : Nat → Nat) (V : mV), mX10_writeItems_go F k' 0 Ln l2A l3I l4I 0 V = some (v, Ln1, V1) → mP Ln1 ≤ mP Ln) ∧ (∀ (l2A : Nat) (l5I : Int32) (Ln : Nat → Nat) (V : mV), mX10_writeItems_go F k' 1 Ln l2A 0 0 l5I V = some (v, Ln1, V1) → mP Ln1 ≤ mP Ln) := by
  intro k'
  induction k' with
  | zero => exact ⟨(fun _ _ _ _ _ h => by cases h), (fun _ _ _ _ h => by cases h)⟩
  | succ k' ihM =>
    refine ⟨?_, ?_⟩
    · intro l2A l3I l4I Ln V h
      rw [mX10_writeItems_go, if_pos rfl] at h
      unfold mX10_writeItems_b0 at h
      rcases mIf_some h with ⟨_, h⟩ | ⟨_, h⟩
      · obtain ⟨_, _, h⟩ := mLt_some h
        exact ihM.2 _ _ _ _ h
      · rcases mIf_some h with ⟨_, h⟩ | ⟨_, h⟩
        · obtain ⟨_, _, h⟩ := mLt_some h
          exact ihM.2 _ _ _ _ h
        · obtain ⟨_, h⟩ := mGd_some h
          obtain ⟨_, h⟩ := mGd_some h
          obtain ⟨_, _, h⟩ := mLt_some h
          obtain ⟨_, _, h⟩ := mLt_some h
          obtain ⟨_, h⟩ := mGd_some h
          obtain ⟨_, _, h⟩ := mLt_some h
          exact ihM.1 _ _ _ _ _ h
    · intro l2A l5I Ln V h
      rw [mX10_writeItems_go, if_neg (by decide), if_pos rfl] at h
      unfold mX10_writeItems_b1 at h
      rcases mIf_some h with ⟨_, h⟩ | ⟨_, h⟩
      · cases h
        exact Nat.le_refl _
      · obtain ⟨_, h⟩ := mGd_some h
        obtain ⟨_, _, _, z1, h⟩ := mBA_some h
        refine Nat.le_trans ?_ (MX9_add z1)
        obtain ⟨_, _, h⟩ := mLt_some h
        exact ihM.2 _ _ _ _ h
set_option maxHeartbeats 4000000 in
set_option maxRecDepth 100000 in
theorem MX10_writeItems {F : Nat} {Ln Ln1 : Nat → Nat} {V V1 : mV} {v : Unit} {l1I : Int32} {l2A : Nat} (h : mX10_writeItems F Ln l1I l2A V = some (v, Ln1, V1)) : mP Ln1 ≤ mP Ln := by
  have ihM := MX10_writeItems_go (F := F) (v := v) (Ln1 := Ln1) (V1 := V1) F
  unfold mX10_writeItems mX10_writeItems_s at h
  exact ihM.1 _ _ _ _ _ h
set_option maxHeartbeats 4000000 in
set_option maxRecDepth 100000 in
theorem LX10_writeItems_go {α : Nat → Nat} {k0 n0 : Nat} {F : Nat} {v : Unit} {Ln1 : Nat → Nat} {V1 : mV} {Φ : (Unit → wPS → Prop)} : ∀ k' : Nat, (∀ (l2A : Nat) (l3I : Int32) (l4I : Int32) (S : wPS) (V : mV) (Ln : Nat → Nat) (c s : Nat), mRel α S Ln V → mK l2A = 9 → mX10_writeItems_go F k' 0 Ln l2A l3I l4I 0 V = some (v, Ln1, V1) → c + (mP Ln - mP Ln1) / 16 ≤ k0 → s + (mP Ln - mP Ln1) ≤ n0 → (∀ S1, mRel α S1 Ln1 V1 → mFr α S S1 → Φ v S1) → rX10_writeItems_go F k0 n0 k' 0 c s (α 7) (α l2A) l3I l4I 0 S Φ) ∧ (∀ (l2A : Nat) (l5I : Int32) (S : wPS) (V : mV) (Ln : Nat → Nat) (c s : Nat), mRel α S Ln V → mK l2A = 9 → mX10_writeItems_go F k' 1 Ln l2A 0 0 l5I V = some (v, Ln1, V1) → c + (mP Ln - mP Ln1) / 16 ≤ k0 → s + (mP Ln - mP Ln1) ≤ n0 → (∀ S1, mRel α S1 Ln1 V1 → mFr α S S1 → Φ v S1) → rX10_writeItems_go F k0 n0 k' 1 c s (α 7) (α l2A) 0 0 l5I S Φ) := by
  intro k'
  induction k' with
  | zero => exact ⟨(fun _ _ _ _ _ _ _ _ _ _ h _ _ _ => by cases h), (fun _ _ _ _ _ _ _ _ _ h _ _ _ => by cases h)⟩
  | succ k' ih =>
    have ihM := MX10_writeItems_go (F := F) (v := v) (Ln1 := Ln1) (V1 := V1) k'
    refine ⟨?_, ?_⟩
    · intro l2A l3I l4I S V Ln c s R sl2A h hk hn k
      rw [mX10_writeItems_go, if_pos rfl] at h
      rw [rX10_writeItems_go, if_pos rfl]
      unfold mX10_writeItems_b0 at h
      unfold rX10_writeItems_b0
      refine mIf h Iff.rfl (fun c2 h => ?_) (fun c2 h => ?_)
      · refine mLet h rfl (fun x2 ex2 h => ?_)
        exact ih.2 _ _ _ _ _ _ _ R sl2A h (by omega) (by omega) (fun S1 R1 F1 => k S1 R1 F1)
      · refine mIf h Iff.rfl (fun c3 h => ?_) (fun c3 h => ?_)
        · refine mLet h rfl (fun x4 ex4 h => ?_)
          exact ih.2 _ _ _ _ _ _ _ R sl2A h (by omega) (by omega) (fun S1 R1 F1 => k S1 R1 F1)
        · refine mGd h (by rw [show S.len (wkAd (gWords_cameBy S (α 7))) = 720 from (mg_len (i := 81) R (mA13 rfl) (mg_A (t := 81) R rfl rfl))]) (fun c4 h => ?_)
          refine mGd h (by rw [show S.len (wkAd (gWords_queue S (α 7))) = 720 from (mg_len (i := 79) R (mA13 rfl) (mg_A (t := 79) R rfl rfl))]) (fun c5 h => ?_)
          obtain ⟨V7, eV7, h⟩ := mLt_some h
          refine mU_I eV7 R (mA13 rfl) (mg_A (t := 79) R rfl rfl) rfl (by rw [show S.rI (wkAd (gWords_cameBy S (α 7))) (l4I).toNatClampNeg = V.rI 81 (l4I).toNatClampNeg from (mg_rI (i := 81) R (mA13 rfl) (mg_A (t := 81) R rfl rfl) rfl)]) (fun S7 R7 F7 => ?_)
          refine mLet h rfl (fun x8 ex8 h => ?_)
          refine mGd h (by rw [show S7.len (wkAd (gWords_aheadOf S7 (α 7))) = 720 from (mg_len (i := 80) R7 (mA13 rfl) (mg_A (t := 80) R7 rfl rfl))]) (fun c6 h => ?_)
          refine mLet h (by rw [show S7.rI (wkAd (gWords_aheadOf S7 (α 7))) (l4I).toNatClampNeg = V7.rI 80 (l4I).toNatClampNeg from (mg_rI (i := 80) R7 (mA13 rfl) (mg_A (t := 80) R7 rfl rfl) rfl)]) (fun x10 ex10 h => ?_)
          exact ih.1 _ _ _ _ _ _ _ _ R7 sl2A h (by omega) (by omega) (fun S1 R1 F1 => k S1 R1 (F7.tr F1))
    · intro l2A l5I S V Ln c s R sl2A h hk hn k
      rw [mX10_writeItems_go, if_neg (by decide), if_pos rfl] at h
      rw [rX10_writeItems_go, if_neg (by decide), if_pos rfl]
      unfold mX10_writeItems_b1 at h
      unfold rX10_writeItems_b1
      refine mIf h Iff.rfl (fun c7 h => ?_) (fun c7 h => ?_)
      · obtain ⟨rfl, rfl, rfl⟩ := mRA3 h
        exact k _ R mFr.rf
      · refine mGd h (by rw [show S.len (wkAd (gWords_queue S (α 7))) = 720 from (mg_len (i := 79) R (mA13 rfl) (mg_A (t := 79) R rfl rfl))]) (fun c8 h => ?_)
        obtain ⟨v13, L14, V14, hv13, h⟩ := mBA_some h
        have mv13 : mP L14 ≤ mP Ln := MX9_add hv13
        have qv13 : mP Ln1 ≤ mP L14 := by
          obtain ⟨_, _, h⟩ := mLt_some h
          exact ihM.2 _ _ _ _ h
        refine ⟨(mP Ln - mP L14) / 16, mP Ln - mP L14, by omega, by omega, ?_⟩
        refine LX9_add hv13 R sl2A rfl (by rw [show S.rI (wkAd (gWords_queue S (α 7))) (l5I).toNatClampNeg = V.rI 79 (l5I).toNatClampNeg from (mg_rI (i := 79) R (mA13 rfl) (mg_A (t := 79) R rfl rfl) rfl)]) (by omega) (by omega) (fun S14 R14 F14 => ?_)
        refine mLet h rfl (fun x18 ex18 h => ?_)
        exact ih.2 _ _ _ _ _ _ _ R14 sl2A h (by omega) (by omega) (fun S1 R1 F1 => k S1 R1 (F14.tr F1))
set_option maxHeartbeats 4000000 in
set_option maxRecDepth 100000 in
theorem LX10_writeItems {α : Nat → Nat} {F : Nat} {S : wPS} {Ln Ln1 : Nat → Nat} {V V1 : mV} {v : Unit} {Φ : (Unit → wPS → Prop)} {l0Ax : Nat} {l1Ix l1I : Int32} {l2Ax : Nat} {l2A : Nat} {k0 n0 : Nat} (h : mX10_writeItems F Ln l1I l2A V = some (v, Ln1, V1)) (R : mRel α S Ln V) (sl2A : mK l2A = 9) (el0A : l0Ax = α 7) (el1I : l1Ix = l1I) (el2A : l2Ax = α l2A) (hk : (mP Ln - mP Ln1) / 16 ≤ k0) (hn : mP Ln - mP Ln1 ≤ n0) (k : (∀ S1, mRel α S1 Ln1 V1 → mFr α S S1 → Φ v S1)) : rX10_writeItems F k0 n0 l0Ax l1Ix l2Ax S Φ := by
  have el0A := el0A.symm
  subst el0A
  have el1I := el1I.symm
  subst el1I
  have el2A := el2A.symm
  subst el2A
  have ih := LX10_writeItems_go  (α := α) (F := F) (v := v) (k0 := k0) (n0 := n0) (Ln1 := Ln1) (Φ := Φ) (V1 := V1) F
  have ihM := MX10_writeItems_go (F := F) (v := v) (Ln1 := Ln1) (V1 := V1) F
  unfold mX10_writeItems mX10_writeItems_s at h
  unfold rX10_writeItems rX10_writeItems_s
  exact ih.1 _ _ _ _ _ _ _ _ R sl2A h (by omega) (by omega) (fun S1 R1 F1 => k S1 R1 F1)
def mX10_judgeItems_b0 (F : Nat) (rec : Nat → (Nat → Nat) → Nat → Int32 → Int32 → Int32 → mV → Option (Int32 × mV)) (Ln : Nat → Nat) (l2A : Nat) (l3I : Int32) (V : mV) : Option (Int32 × mV) :=
  (if (V.fI 7 10) ≤ l3I then some ((0 : Int32), V) else (rec 1 Ln l2A (l3I) (l3I) ((0 : Int32)) V))
def mX10_judgeItems_b1 (F : Nat) (rec : Nat → (Nat → Nat) → Nat → Int32 → Int32 → Int32 → mV → Option (Int32 × mV)) (Ln : Nat → Nat) (l2A : Nat) (l3I : Int32) (l4I : Int32) (l5I : Int32) (V : mV) : Option (Int32 × mV) :=
  (if (V.fI l2A 1) ≤ l5I then (if l3I < 0 ∨ 6 ≤ (l3I).toNatClampNeg then none else (if l4I = (V.rI 76 (l3I).toNatClampNeg) then (mLt (l3I + (1 : Int32)) fun x5 => (rec 0 Ln l2A (x5) 0 0 V)) else some ((2 : Int32), V))) else (mBN (mX9_at F Ln l2A (l5I) V) fun v6 => (if v6 < 0 ∨ 5 ≤ (v6).toNatClampNeg then none else (if l4I < 0 ∨ 6 ≤ (l4I).toNatClampNeg then none else (mLt (V.rI (71 + (v6).toNatClampNeg) (l4I).toNatClampNeg) fun x14 => (mLt (l5I + (1 : Int32)) fun x15 => (rec 1 Ln l2A (l3I) (x14) (x15) V)))))))
def mX10_judgeItems_go (F : Nat) : Nat → Nat → (Nat → Nat) → Nat → Int32 → Int32 → Int32 → mV → Option (Int32 × mV)
  | 0, _, _, _, _, _, _, _ => none
  | k' + 1, lab, Ln, l2A, l3I, l4I, l5I, V => if lab = 0 then mX10_judgeItems_b0 F (mX10_judgeItems_go F k') Ln l2A l3I V else if lab = 1 then mX10_judgeItems_b1 F (mX10_judgeItems_go F k') Ln l2A l3I l4I l5I V else none
def mX10_judgeItems_s (F : Nat) (rec : Nat → (Nat → Nat) → Nat → Int32 → Int32 → Int32 → mV → Option (Int32 × mV)) (Ln : Nat → Nat) (l1A : Nat) (l2A : Nat) (V : mV) : Option (Int32 × mV) :=
  (mBW (mX10_loadItems F l1A V) fun v16 V17 => (mBN (mX9_liesWithin F Ln l2A ((0 : Int32)) ((1 : Int32)) ((V17.fI 7 11)) V17) fun v21 => (if v21 = 0 then some ((1 : Int32), V17) else (rec 0 Ln l2A ((0 : Int32)) 0 0 V17))))
def mX10_judgeItems (F : Nat) (Ln : Nat → Nat) (l1A : Nat) (l2A : Nat) (V : mV) : Option (Int32 × mV) := mX10_judgeItems_s F (mX10_judgeItems_go F F) Ln l1A l2A V
set_option maxHeartbeats 4000000 in
set_option maxRecDepth 100000 in
theorem LX10_judgeItems_go {α : Nat → Nat} {F : Nat} {v : Int32} {V1 : mV} {Φ : (Int32 → wPS → Prop)} : ∀ k' : Nat, (∀ (l2A : Nat) (l3I : Int32) (S : wPS) (V : mV) (Ln : Nat → Nat) , mRel α S Ln V → mK l2A = 9 → mX10_judgeItems_go F k' 0 Ln l2A l3I 0 0 V = some (v, V1) → (∀ S1, mRel α S1 Ln V1 → mFr α S S1 → Φ v S1) → rX10_judgeItems_go F k' 0 (α 7) (α l2A) l3I 0 0 S Φ) ∧ (∀ (l2A : Nat) (l3I : Int32) (l4I : Int32) (l5I : Int32) (S : wPS) (V : mV) (Ln : Nat → Nat) , mRel α S Ln V → mK l2A = 9 → mX10_judgeItems_go F k' 1 Ln l2A l3I l4I l5I V = some (v, V1) → (∀ S1, mRel α S1 Ln V1 → mFr α S S1 → Φ v S1) → rX10_judgeItems_go F k' 1 (α 7) (α l2A) l3I l4I l5I S Φ) := by
  intro k'
  induction k' with
  | zero => exact ⟨(fun _ _ _ _ _ _ _ h _ => by cases h), (fun _ _ _ _ _ _ _ _ _ h _ => by cases h)⟩
  | succ k' ih =>
    refine ⟨?_, ?_⟩
    · intro l2A l3I S V Ln R sl2A h k
      rw [mX10_judgeItems_go, if_pos rfl] at h
      rw [rX10_judgeItems_go, if_pos rfl]
      unfold mX10_judgeItems_b0 at h
      unfold rX10_judgeItems_b0
      refine mIf h (by rw [show gWords_size S (α 7) = V.fI 7 10 from (mg_I (i := 7) R (by decide) rfl 10)]) (fun c1 h => ?_) (fun c1 h => ?_)
      · obtain ⟨rfl, rfl⟩ := mRW h
        exact k _ R mFr.rf
      · exact ih.2 _ _ _ _ _ _ _ R sl2A h (fun S1 R1 F1 => k S1 R1 F1)
    · intro l2A l3I l4I l5I S V Ln R sl2A h k
      rw [mX10_judgeItems_go, if_neg (by decide), if_pos rfl] at h
      rw [rX10_judgeItems_go, if_neg (by decide), if_pos rfl]
      unfold mX10_judgeItems_b1 at h
      unfold rX10_judgeItems_b1
      refine mIf h (by rw [show gRow_count S (α l2A) = V.fI l2A 1 from (mg_I (i := l2A) R (mO9 sl2A) rfl 1)]) (fun c2 h => ?_) (fun c2 h => ?_)
      · refine mGd h (by rw [show S.len (wkAd (gWords_goal S (α 7))) = 6 from (mg_len (i := 76) R (mA13 rfl) (mg_A (t := 76) R rfl rfl))]) (fun c3 h => ?_)
        refine mIf h (by rw [show S.rI (wkAd (gWords_goal S (α 7))) (l3I).toNatClampNeg = V.rI 76 (l3I).toNatClampNeg from (mg_rI (i := 76) R (mA13 rfl) (mg_A (t := 76) R rfl rfl) rfl)]) (fun c4 h => ?_) (fun c4 h => ?_)
        · refine mLet h rfl (fun x5 ex5 h => ?_)
          exact ih.1 _ _ _ _ _ R sl2A h (fun S1 R1 F1 => k S1 R1 F1)
        · obtain ⟨rfl, rfl⟩ := mRW h
          exact k _ R mFr.rf
      · obtain ⟨v6, hv6, h⟩ := mBN_some h
        refine LX9_at hv6 R sl2A rfl rfl ?_
        refine mGd h (by rw [show S.len (wkAd (gWords_leads S (α 7))) = 5 from (mg_len (i := 70) R (mAr (by decide)) (mg_A (t := 70) R rfl rfl))]) (fun c5 h => ?_)
        refine mGd h (by rw [show S.len (wkAd (S.rA (wkAd (gWords_leads S (α 7))) (v6).toNatClampNeg)) = 6 from ((mg_len R (mA13 (mKA70 (Nat.lt_of_not_le (fun z => c5 (Or.inr z))))) (mg_RA R (mRA70 (Nat.lt_of_not_le (fun z => c5 (Or.inr z)))) (mg_A (t := 70) R rfl rfl) rfl)).trans (mLA70 (Nat.lt_of_not_le (fun z => c5 (Or.inr z)))))]) (fun c6 h => ?_)
        refine mLet h (by rw [show S.rI (wkAd (S.rA (wkAd (gWords_leads S (α 7))) (v6).toNatClampNeg)) (l4I).toNatClampNeg = V.rI (71 + (v6).toNatClampNeg) (l4I).toNatClampNeg from (mg_rI (i := (71 + (v6).toNatClampNeg)) R (mA13 (mKA70 (Nat.lt_of_not_le (fun z => c5 (Or.inr z))))) (mg_RA R (mRA70 (Nat.lt_of_not_le (fun z => c5 (Or.inr z)))) (mg_A (t := 70) R rfl rfl) rfl) rfl)]) (fun x14 ex14 h => ?_)
        refine mLet h rfl (fun x15 ex15 h => ?_)
        exact ih.2 _ _ _ _ _ _ _ R sl2A h (fun S1 R1 F1 => k S1 R1 F1)
set_option maxHeartbeats 4000000 in
set_option maxRecDepth 100000 in
theorem LX10_judgeItems {α : Nat → Nat} {F : Nat} {S : wPS} {Ln : Nat → Nat} {V V1 : mV} {v : Int32} {Φ : (Int32 → wPS → Prop)} {l0Ax : Nat} {l1Ax : Nat} {l1A : Nat} {l2Ax : Nat} {l2A : Nat} (h : mX10_judgeItems F Ln l1A l2A V = some (v, V1)) (R : mRel α S Ln V) (sl1A : mK l1A = 3) (sl2A : mK l2A = 9) (el0A : l0Ax = α 7) (el1A : l1Ax = α l1A) (el2A : l2Ax = α l2A) (k : (∀ S1, mRel α S1 Ln V1 → mFr α S S1 → Φ v S1)) : rX10_judgeItems F l0Ax l1Ax l2Ax S Φ := by
  have el0A := el0A.symm
  subst el0A
  have el1A := el1A.symm
  subst el1A
  have el2A := el2A.symm
  subst el2A
  have ih := LX10_judgeItems_go  (α := α) (F := F) (v := v) (Φ := Φ) (V1 := V1) F
  unfold mX10_judgeItems mX10_judgeItems_s at h
  unfold rX10_judgeItems rX10_judgeItems_s
  obtain ⟨v16, V17, hv16, h⟩ := mBW_some h
  refine LX10_loadItems hv16 R sl1A rfl rfl (fun S17 R17 F17 => ?_)
  obtain ⟨v21, hv21, h⟩ := mBN_some h
  refine LX9_liesWithin hv21 R17 sl2A rfl rfl rfl (by rw [show gWords_lastUsed S17 (α 7) = V17.fI 7 11 from (mg_I (i := 7) R17 (by decide) rfl 11)]) ?_
  refine mIf h Iff.rfl (fun c7 h => ?_) (fun c7 h => ?_)
  · obtain ⟨rfl, rfl⟩ := mRW h
    exact k _ R17 F17
  · exact ih.1 _ _ _ _ _ R17 sl2A h (fun S1 R1 F1 => k S1 R1 (F17.tr F1))
def mX10_readCode_b0 (F : Nat) (rec : Nat → Int32 → Int32 → mV → Option (Int32 × mV)) (l3I : Int32) (l4I : Int32) (V : mV) : Option (Int32 × mV) :=
  (if l4I < 0 then some (l3I, V) else (mBN (mJ9_floorMod_7cf53 F (l3I) ((6 : Int32))) fun v2 => (if l4I < 0 ∨ 6 ≤ (l4I).toNatClampNeg then none else (mLt (mI V 77 (l4I) (v2)) fun V8 => (mBN (mJ9_floorDiv_7cf53 F (l3I) ((6 : Int32))) fun v9 => (mLt (l4I + (-1 : Int32)) fun x14 => (rec 0 (v9) (x14) V8)))))))
def mX10_readCode_go (F : Nat) : Nat → Nat → Int32 → Int32 → mV → Option (Int32 × mV)
  | 0, _, _, _, _ => none
  | k' + 1, lab, l3I, l4I, V => if lab = 0 then mX10_readCode_b0 F (mX10_readCode_go F k') l3I l4I V else none
def mX10_readCode_s (F : Nat) (rec : Nat → Int32 → Int32 → mV → Option (Int32 × mV)) (l1I : Int32) (l2I : Int32) (V : mV) : Option (Int32 × mV) :=
  (mLt (l2I - (1 : Int32)) fun x15 => (rec 0 (l1I) (x15) V))
def mX10_readCode (F : Nat) (l1I : Int32) (l2I : Int32) (V : mV) : Option (Int32 × mV) := mX10_readCode_s F (mX10_readCode_go F F) l1I l2I V
set_option maxHeartbeats 4000000 in
set_option maxRecDepth 100000 in
theorem LX10_readCode_go {α : Nat → Nat} {F : Nat} {Ln : Nat → Nat} {v : Int32} {V1 : mV} {Φ : (Int32 → wPS → Prop)} : ∀ k' : Nat, (∀ (l3I : Int32) (l4I : Int32) (S : wPS) (V : mV) , mRel α S Ln V → mX10_readCode_go F k' 0 l3I l4I V = some (v, V1) → (∀ S1, mRel α S1 Ln V1 → mFr α S S1 → Φ v S1) → rX10_readCode_go F k' 0 (α 7) l3I l4I S Φ) := by
  intro k'
  induction k' with
  | zero => exact (fun _ _ _ _ _ h _ => by cases h)
  | succ k' ih =>
    intro l3I l4I S V R h k
    rw [mX10_readCode_go, if_pos rfl] at h
    rw [rX10_readCode_go, if_pos rfl]
    unfold mX10_readCode_b0 at h
    unfold rX10_readCode_b0
    refine mIf h Iff.rfl (fun c1 h => ?_) (fun c1 h => ?_)
    · obtain ⟨rfl, rfl⟩ := mRW h
      exact k _ R mFr.rf
    · obtain ⟨v2, hv2, h⟩ := mBN_some h
      refine LJ9_floorMod_7cf53 hv2 rfl rfl ?_
      refine mGd h (by rw [show S.len (wkAd (gWords_points S (α 7))) = 6 from (mg_len (i := 77) R (mA13 rfl) (mg_A (t := 77) R rfl rfl))]) (fun c2 h => ?_)
      obtain ⟨V8, eV8, h⟩ := mLt_some h
      refine mU_I eV8 R (mA13 rfl) (mg_A (t := 77) R rfl rfl) rfl rfl (fun S8 R8 F8 => ?_)
      obtain ⟨v9, hv9, h⟩ := mBN_some h
      refine LJ9_floorDiv_7cf53 hv9 rfl rfl ?_
      refine mLet h rfl (fun x14 ex14 h => ?_)
      exact ih _ _ _ _ R8 h (fun S1 R1 F1 => k S1 R1 (F8.tr F1))
set_option maxHeartbeats 4000000 in
set_option maxRecDepth 100000 in
theorem LX10_readCode {α : Nat → Nat} {F : Nat} {S : wPS} {Ln : Nat → Nat} {V V1 : mV} {v : Int32} {Φ : (Int32 → wPS → Prop)} {l0Ax : Nat} {l1Ix l1I : Int32} {l2Ix l2I : Int32} (h : mX10_readCode F l1I l2I V = some (v, V1)) (R : mRel α S Ln V) (el0A : l0Ax = α 7) (el1I : l1Ix = l1I) (el2I : l2Ix = l2I) (k : (∀ S1, mRel α S1 Ln V1 → mFr α S S1 → Φ v S1)) : rX10_readCode F l0Ax l1Ix l2Ix S Φ := by
  have el0A := el0A.symm
  subst el0A
  have el1I := el1I.symm
  subst el1I
  have el2I := el2I.symm
  subst el2I
  have ih := LX10_readCode_go  (α := α) (F := F) (v := v) (Ln := Ln) (Φ := Φ) (V1 := V1) F
  unfold mX10_readCode mX10_readCode_s at h
  unfold rX10_readCode rX10_readCode_s
  refine mLet h rfl (fun x15 ex15 h => ?_)
  exact ih _ _ _ _ R h (fun S1 R1 F1 => k S1 R1 F1)
def mX10_isLedWithin_b0 (F : Nat) (rec : Nat → (Nat → Nat) → Nat → Int32 → Int32 → Int32 → mV → Option (Int32 × mV)) (Ln : Nat → Nat) (l1A : Nat) (l3I : Int32) (l4I : Int32) (V : mV) : Option (Int32 × mV) :=
  (if (V.fI 7 11) < l4I then some ((1 : Int32), V) else (rec 1 Ln l1A (l3I) (l4I) ((0 : Int32)) V))
def mX10_isLedWithin_b1 (F : Nat) (rec : Nat → (Nat → Nat) → Nat → Int32 → Int32 → Int32 → mV → Option (Int32 × mV)) (Ln : Nat → Nat) (l1A : Nat) (l3I : Int32) (l4I : Int32) (l5I : Int32) (V : mV) : Option (Int32 × mV) :=
  (if l3I ≤ l5I then (mBN (mX10_codeOf F 78 (l3I) V) fun v3 => (mBN (mX9_holds F Ln l1A ((1 : Int32)) (v3) V) fun v8 => (if v8 = 0 then some ((0 : Int32), V) else (mLt (l4I + (1 : Int32)) fun x14 => (rec 0 Ln l1A (l3I) (x14) 0 V))))) else (if l4I < 0 ∨ 5 ≤ (l4I).toNatClampNeg then none else (if l5I < 0 ∨ 6 ≤ (l5I).toNatClampNeg then none else (if (V.rI 77 (l5I).toNatClampNeg) < 0 ∨ 6 ≤ ((V.rI 77 (l5I).toNatClampNeg)).toNatClampNeg then none else (if l5I < 0 ∨ 6 ≤ (l5I).toNatClampNeg then none else (mLt (mI V 78 (l5I) ((V.rI (71 + (l4I).toNatClampNeg) ((V.rI 77 (l5I).toNatClampNeg)).toNatClampNeg))) fun V20 => (mLt (l5I + (1 : Int32)) fun x21 => (rec 1 Ln l1A (l3I) (l4I) (x21) V20))))))))
def mX10_isLedWithin_go (F : Nat) : Nat → Nat → (Nat → Nat) → Nat → Int32 → Int32 → Int32 → mV → Option (Int32 × mV)
  | 0, _, _, _, _, _, _, _ => none
  | k' + 1, lab, Ln, l1A, l3I, l4I, l5I, V => if lab = 0 then mX10_isLedWithin_b0 F (mX10_isLedWithin_go F k') Ln l1A l3I l4I V else if lab = 1 then mX10_isLedWithin_b1 F (mX10_isLedWithin_go F k') Ln l1A l3I l4I l5I V else none
def mX10_isLedWithin_s (F : Nat) (rec : Nat → (Nat → Nat) → Nat → Int32 → Int32 → Int32 → mV → Option (Int32 × mV)) (Ln : Nat → Nat) (l1A : Nat) (l2I : Int32) (l3I : Int32) (V : mV) : Option (Int32 × mV) :=
  (mBN (mX9_at F Ln l1A (l2I) V) fun v22 => (mBW (mX10_readCode F (v22) (l3I) V) fun v27 V28 => (rec 0 Ln l1A (l3I) ((1 : Int32)) 0 V28)))
def mX10_isLedWithin (F : Nat) (Ln : Nat → Nat) (l1A : Nat) (l2I : Int32) (l3I : Int32) (V : mV) : Option (Int32 × mV) := mX10_isLedWithin_s F (mX10_isLedWithin_go F F) Ln l1A l2I l3I V
set_option maxHeartbeats 4000000 in
set_option maxRecDepth 100000 in
theorem LX10_isLedWithin_go {α : Nat → Nat} {F : Nat} {v : Int32} {V1 : mV} {Φ : (Int32 → wPS → Prop)} : ∀ k' : Nat, (∀ (l1A : Nat) (l3I : Int32) (l4I : Int32) (S : wPS) (V : mV) (Ln : Nat → Nat) , mRel α S Ln V → mK l1A = 9 → mX10_isLedWithin_go F k' 0 Ln l1A l3I l4I 0 V = some (v, V1) → (∀ S1, mRel α S1 Ln V1 → mFr α S S1 → Φ v S1) → rX10_isLedWithin_go F k' 0 (α 7) (α l1A) l3I l4I 0 S Φ) ∧ (∀ (l1A : Nat) (l3I : Int32) (l4I : Int32) (l5I : Int32) (S : wPS) (V : mV) (Ln : Nat → Nat) , mRel α S Ln V → mK l1A = 9 → mX10_isLedWithin_go F k' 1 Ln l1A l3I l4I l5I V = some (v, V1) → (∀ S1, mRel α S1 Ln V1 → mFr α S S1 → Φ v S1) → rX10_isLedWithin_go F k' 1 (α 7) (α l1A) l3I l4I l5I S Φ) := by
  intro k'
  induction k' with
  | zero => exact ⟨(fun _ _ _ _ _ _ _ _ h _ => by cases h), (fun _ _ _ _ _ _ _ _ _ h _ => by cases h)⟩
  | succ k' ih =>
    refine ⟨?_, ?_⟩
    · intro l1A l3I l4I S V Ln R sl1A h k
      rw [mX10_isLedWithin_go, if_pos rfl] at h
      rw [rX10_isLedWithin_go, if_pos rfl]
      unfold mX10_isLedWithin_b0 at h
      unfold rX10_isLedWithin_b0
      refine mIf h (by rw [show gWords_lastUsed S (α 7) = V.fI 7 11 from (mg_I (i := 7) R (by decide) rfl 11)]) (fun c1 h => ?_) (fun c1 h => ?_)
      · obtain ⟨rfl, rfl⟩ := mRW h
        exact k _ R mFr.rf
      · exact ih.2 _ _ _ _ _ _ _ R sl1A h (fun S1 R1 F1 => k S1 R1 F1)
    · intro l1A l3I l4I l5I S V Ln R sl1A h k
      rw [mX10_isLedWithin_go, if_neg (by decide), if_pos rfl] at h
      rw [rX10_isLedWithin_go, if_neg (by decide), if_pos rfl]
      unfold mX10_isLedWithin_b1 at h
      unfold rX10_isLedWithin_b1
      refine mIf h Iff.rfl (fun c2 h => ?_) (fun c2 h => ?_)
      · obtain ⟨v3, hv3, h⟩ := mBN_some h
        refine LX10_codeOf hv3 R rfl (mg_A (t := 78) R rfl rfl) rfl ?_
        obtain ⟨v8, hv8, h⟩ := mBN_some h
        refine LX9_holds hv8 R sl1A rfl rfl rfl ?_
        refine mIf h Iff.rfl (fun c3 h => ?_) (fun c3 h => ?_)
        · obtain ⟨rfl, rfl⟩ := mRW h
          exact k _ R mFr.rf
        · refine mLet h rfl (fun x14 ex14 h => ?_)
          exact ih.1 _ _ _ _ _ _ R sl1A h (fun S1 R1 F1 => k S1 R1 F1)
      · refine mGd h (by rw [show S.len (wkAd (gWords_leads S (α 7))) = 5 from (mg_len (i := 70) R (mAr (by decide)) (mg_A (t := 70) R rfl rfl))]) (fun c4 h => ?_)
        refine mGd h (by rw [show S.len (wkAd (gWords_points S (α 7))) = 6 from (mg_len (i := 77) R (mA13 rfl) (mg_A (t := 77) R rfl rfl))]) (fun c5 h => ?_)
        refine mGd h (by rw [show S.len (wkAd (S.rA (wkAd (gWords_leads S (α 7))) (l4I).toNatClampNeg)) = 6 from ((mg_len R (mA13 (mKA70 (Nat.lt_of_not_le (fun z => c4 (Or.inr z))))) (mg_RA R (mRA70 (Nat.lt_of_not_le (fun z => c4 (Or.inr z)))) (mg_A (t := 70) R rfl rfl) rfl)).trans (mLA70 (Nat.lt_of_not_le (fun z => c4 (Or.inr z))))), show S.rI (wkAd (gWords_points S (α 7))) (l5I).toNatClampNeg = V.rI 77 (l5I).toNatClampNeg from (mg_rI (i := 77) R (mA13 rfl) (mg_A (t := 77) R rfl rfl) rfl)]) (fun c6 h => ?_)
        refine mGd h (by rw [show S.len (wkAd (gWords_ledPoints S (α 7))) = 6 from (mg_len (i := 78) R (mA13 rfl) (mg_A (t := 78) R rfl rfl))]) (fun c7 h => ?_)
        obtain ⟨V20, eV20, h⟩ := mLt_some h
        refine mU_I eV20 R (mA13 rfl) (mg_A (t := 78) R rfl rfl) rfl (by rw [show S.rI (wkAd (S.rA (wkAd (gWords_leads S (α 7))) (l4I).toNatClampNeg)) ((S.rI (wkAd (gWords_points S (α 7))) (l5I).toNatClampNeg)).toNatClampNeg = V.rI (71 + (l4I).toNatClampNeg) ((V.rI 77 (l5I).toNatClampNeg)).toNatClampNeg from (mg_rI (i := (71 + (l4I).toNatClampNeg)) R (mA13 (mKA70 (Nat.lt_of_not_le (fun z => c4 (Or.inr z))))) (mg_RA R (mRA70 (Nat.lt_of_not_le (fun z => c4 (Or.inr z)))) (mg_A (t := 70) R rfl rfl) rfl) (by rw [show S.rI (wkAd (gWords_points S (α 7))) (l5I).toNatClampNeg = V.rI 77 (l5I).toNatClampNeg from (mg_rI (i := 77) R (mA13 rfl) (mg_A (t := 77) R rfl rfl) rfl)]))]) (fun S20 R20 F20 => ?_)
        refine mLet h rfl (fun x21 ex21 h => ?_)
        exact ih.2 _ _ _ _ _ _ _ R20 sl1A h (fun S1 R1 F1 => k S1 R1 (F20.tr F1))
set_option maxHeartbeats 4000000 in
set_option maxRecDepth 100000 in
theorem LX10_isLedWithin {α : Nat → Nat} {F : Nat} {S : wPS} {Ln : Nat → Nat} {V V1 : mV} {v : Int32} {Φ : (Int32 → wPS → Prop)} {l0Ax : Nat} {l1Ax : Nat} {l1A : Nat} {l2Ix l2I : Int32} {l3Ix l3I : Int32} (h : mX10_isLedWithin F Ln l1A l2I l3I V = some (v, V1)) (R : mRel α S Ln V) (sl1A : mK l1A = 9) (el0A : l0Ax = α 7) (el1A : l1Ax = α l1A) (el2I : l2Ix = l2I) (el3I : l3Ix = l3I) (k : (∀ S1, mRel α S1 Ln V1 → mFr α S S1 → Φ v S1)) : rX10_isLedWithin F l0Ax l1Ax l2Ix l3Ix S Φ := by
  have el0A := el0A.symm
  subst el0A
  have el1A := el1A.symm
  subst el1A
  have el2I := el2I.symm
  subst el2I
  have el3I := el3I.symm
  subst el3I
  have ih := LX10_isLedWithin_go  (α := α) (F := F) (v := v) (Φ := Φ) (V1 := V1) F
  unfold mX10_isLedWithin mX10_isLedWithin_s at h
  unfold rX10_isLedWithin rX10_isLedWithin_s
  obtain ⟨v22, hv22, h⟩ := mBN_some h
  refine LX9_at hv22 R sl1A rfl rfl ?_
  obtain ⟨v27, V28, hv27, h⟩ := mBW_some h
  refine LX10_readCode hv27 R rfl rfl rfl (fun S28 R28 F28 => ?_)
  exact ih.1 _ _ _ _ _ _ R28 sl1A h (fun S1 R1 F1 => k S1 R1 (F28.tr F1))
def mX10_replaceAll_b0 (F : Nat) (rec : Nat → Int32 → Int32 → Int32 → Int32 → Int32 → Int32 → mV → Option (Unit × mV)) (l2I : Int32) (l3I : Int32) (l4I : Int32) (l6I : Int32) (l7I : Int32) (l8I : Int32) (V : mV) : Option (Unit × mV) :=
  (if l8I < 0 then some ((), V) else (mLt ((l2I >>> (l8I &&& 31)) &&& (((1 : Int32) <<< (l6I &&& 31)) - (1 : Int32))) fun x2 => (if (x2 + ((1 : Int32) <<< (l6I &&& 31))) = l3I then (mLt (l2I >>> ((l8I + l6I) &&& 31)) fun x5 => (mLt (l4I - ((1 : Int32) <<< (l7I &&& 31))) fun x6 => (mBW (mX10_addNext F (((((x5 <<< (l7I &&& 31)) ||| x6) <<< (l8I &&& 31)) ||| (l2I &&& (((1 : Int32) <<< (l8I &&& 31)) - (1 : Int32))))) V) fun v7 V8 => (mLt (l8I + (-1 : Int32)) fun x12 => (rec 0 (l2I) (l3I) (l4I) (l6I) (l7I) (x12) V8))))) else (mLt (l8I + (-1 : Int32)) fun x4 => (rec 0 (l2I) (l3I) (l4I) (l6I) (l7I) (x4) V)))))
def mX10_replaceAll_go (F : Nat) : Nat → Nat → Int32 → Int32 → Int32 → Int32 → Int32 → Int32 → mV → Option (Unit × mV)
  | 0, _, _, _, _, _, _, _, _ => none
  | k' + 1, lab, l2I, l3I, l4I, l6I, l7I, l8I, V => if lab = 0 then mX10_replaceAll_b0 F (mX10_replaceAll_go F k') l2I l3I l4I l6I l7I l8I V else none
def mX10_replaceAll_s (F : Nat) (rec : Nat → Int32 → Int32 → Int32 → Int32 → Int32 → Int32 → mV → Option (Unit × mV)) (l1A : Nat) (l2I : Int32) (l3I : Int32) (l4I : Int32) (V : mV) : Option (Unit × mV) :=
  (mBN (mX10_lettersOf F (l2I)) fun v13 => (mBN (mX10_lettersOf F (l3I)) fun v18 => (mBN (mX10_lettersOf F (l4I)) fun v23 => (if ((v13 - v18) + v23) ≤ (V.fI l1A 8) then (mLt (v13 - v18) fun x29 => (rec 0 (l2I) (l3I) (l4I) (v18) (v23) (x29) V)) else some ((), V)))))
def mX10_replaceAll (F : Nat) (l1A : Nat) (l2I : Int32) (l3I : Int32) (l4I : Int32) (V : mV) : Option (Unit × mV) := mX10_replaceAll_s F (mX10_replaceAll_go F F) l1A l2I l3I l4I V
set_option maxHeartbeats 4000000 in
set_option maxRecDepth 100000 in
theorem LX10_replaceAll_go {α : Nat → Nat} {F : Nat} {Ln : Nat → Nat} {v : Unit} {V1 : mV} {Φ : (Unit → wPS → Prop)} : ∀ k' : Nat, (∀ (l2I : Int32) (l3I : Int32) (l4I : Int32) (l6I : Int32) (l7I : Int32) (l8I : Int32) (S : wPS) (V : mV) , mRel α S Ln V → mX10_replaceAll_go F k' 0 l2I l3I l4I l6I l7I l8I V = some (v, V1) → (∀ S1, mRel α S1 Ln V1 → mFr α S S1 → Φ v S1) → rX10_replaceAll_go F k' 0 (α 7) l2I l3I l4I l6I l7I l8I S Φ) := by
  intro k'
  induction k' with
  | zero => exact (fun _ _ _ _ _ _ _ _ _ h _ => by cases h)
  | succ k' ih =>
    intro l2I l3I l4I l6I l7I l8I S V R h k
    rw [mX10_replaceAll_go, if_pos rfl] at h
    rw [rX10_replaceAll_go, if_pos rfl]
    unfold mX10_replaceAll_b0 at h
    unfold rX10_replaceAll_b0
    refine mIf h Iff.rfl (fun c1 h => ?_) (fun c1 h => ?_)
    · obtain ⟨rfl, rfl⟩ := mRW h
      exact k _ R mFr.rf
    · refine mLet h rfl (fun x2 ex2 h => ?_)
      refine mIf h Iff.rfl (fun c2 h => ?_) (fun c2 h => ?_)
      · refine mLet h rfl (fun x5 ex5 h => ?_)
        refine mLet h rfl (fun x6 ex6 h => ?_)
        obtain ⟨v7, V8, hv7, h⟩ := mBW_some h
        refine LX10_addNext hv7 R rfl rfl (fun S8 R8 F8 => ?_)
        refine mLet h rfl (fun x12 ex12 h => ?_)
        exact ih _ _ _ _ _ _ _ _ R8 h (fun S1 R1 F1 => k S1 R1 (F8.tr F1))
      · refine mLet h rfl (fun x4 ex4 h => ?_)
        exact ih _ _ _ _ _ _ _ _ R h (fun S1 R1 F1 => k S1 R1 F1)
set_option maxHeartbeats 4000000 in
set_option maxRecDepth 100000 in
theorem LX10_replaceAll {α : Nat → Nat} {F : Nat} {S : wPS} {Ln : Nat → Nat} {V V1 : mV} {v : Unit} {Φ : (Unit → wPS → Prop)} {l0Ax : Nat} {l1Ax : Nat} {l1A : Nat} {l2Ix l2I : Int32} {l3Ix l3I : Int32} {l4Ix l4I : Int32} (h : mX10_replaceAll F l1A l2I l3I l4I V = some (v, V1)) (R : mRel α S Ln V) (sl1A : mK l1A = 3) (el0A : l0Ax = α 7) (el1A : l1Ax = α l1A) (el2I : l2Ix = l2I) (el3I : l3Ix = l3I) (el4I : l4Ix = l4I) (k : (∀ S1, mRel α S1 Ln V1 → mFr α S S1 → Φ v S1)) : rX10_replaceAll F l0Ax l1Ax l2Ix l3Ix l4Ix S Φ := by
  have el0A := el0A.symm
  subst el0A
  have el1A := el1A.symm
  subst el1A
  have el2I := el2I.symm
  subst el2I
  have el3I := el3I.symm
  subst el3I
  have el4I := el4I.symm
  subst el4I
  have ih := LX10_replaceAll_go  (α := α) (F := F) (v := v) (Ln := Ln) (Φ := Φ) (V1 := V1) F
  unfold mX10_replaceAll mX10_replaceAll_s at h
  unfold rX10_replaceAll rX10_replaceAll_s
  obtain ⟨v13, hv13, h⟩ := mBN_some h
  refine LX10_lettersOf hv13 rfl ?_
  obtain ⟨v18, hv18, h⟩ := mBN_some h
  refine LX10_lettersOf hv18 rfl ?_
  obtain ⟨v23, hv23, h⟩ := mBN_some h
  refine LX10_lettersOf hv23 rfl ?_
  refine mIf h (by rw [show gEntry_boundNow S (α l1A) = V.fI l1A 8 from (mg_I (i := l1A) R (mO3 sl1A) rfl 8)]) (fun c3 h => ?_) (fun c3 h => ?_)
  · refine mLet h rfl (fun x29 ex29 h => ?_)
    exact ih _ _ _ _ _ _ _ _ R h (fun S1 R1 F1 => k S1 R1 F1)
  · obtain ⟨rfl, rfl⟩ := mRW h
    exact k _ R mFr.rf
end
