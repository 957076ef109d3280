/-! LIFTED BY PROGRAM (lift.py): X4_carriesFlows, X4_carriesEdges, X4_canBringBack, X5_clearTable, X5_improves, X5_leftSideBy, X5_rightSideBy, X5_judgeUnknowns. -/
section
def mX4_carriesFlows_b0 (F : Nat) (rec : Nat → Nat → Nat → Int32 → Int32 → mV → Option (Int32 × mV)) (l1A : Nat) (l2A : Nat) (l3I : Int32) (l5I : Int32) (V : mV) : Option (Int32 × mV) :=
  (if l3I ≤ l5I then (rec 1 l1A l2A 0 ((1 : Int32)) V) else (mBW (mX3_addItem F l2A ((0 : Int32)) ((0 : Int32)) ((0 : Int32)) V) fun v2 V3 => (mBW (mX3_addTo F l2A (l5I) (l5I) ((1 : Int32)) V3) fun v7 V8 => (mBN (mX3_at F l1A (l5I) ((2 : Int32)) V8) fun v12 => (mBW (mX3_addTo F l2A (l5I) ((4 : Int32)) (v12) V8) fun v17 V18 => (mLt (l5I + (1 : Int32)) fun x22 => (rec 0 l1A l2A (l3I) (x22) V18)))))))
def mX4_carriesFlows_b1 (F : Nat) (rec : Nat → Nat → Nat → Int32 → Int32 → mV → Option (Int32 × mV)) (l1A : Nat) (l2A : Nat) (l5I : Int32) (V : mV) : Option (Int32 × mV) :=
  (if ((V.fI l1A 1) - (1 : Int32)) ≤ l5I then (mBW (mX4_addBalance F l1A l2A ((0 : Int32)) ((1 : Int32)) ((V.fI l1A 8)) V) fun v24 V25 => (mBW (mX4_addBalance F l1A l2A ((0 : Int32)) ((-1 : Int32)) ((-(V25.fI l1A 8))) V25) fun v29 V30 => some ((1 : Int32), V30))) else (mBW (mX4_addBalance F l1A l2A (l5I) ((-1 : Int32)) ((0 : Int32)) V) fun v34 V35 => (mBW (mX4_addBalance F l1A l2A (l5I) ((1 : Int32)) ((0 : Int32)) V35) fun v39 V40 => (mLt (l5I + (1 : Int32)) fun x44 => (rec 1 l1A l2A 0 (x44) V40)))))
def mX4_carriesFlows_go (F : Nat) : Nat → Nat → Nat → Nat → Int32 → Int32 → mV → Option (Int32 × mV)
  | 0, _, _, _, _, _, _ => none
  | k' + 1, lab, l1A, l2A, l3I, l5I, V => if lab = 0 then mX4_carriesFlows_b0 F (mX4_carriesFlows_go F k') l1A l2A l3I l5I V else if lab = 1 then mX4_carriesFlows_b1 F (mX4_carriesFlows_go F k') l1A l2A l5I V else none
def mX4_carriesFlows_s (F : Nat) (rec : Nat → Nat → Nat → Int32 → Int32 → mV → Option (Int32 × mV)) (l1A : Nat) (l2A : Nat) (V : mV) : Option (Int32 × mV) :=
  (mLt (V.fI l1A 6) fun x45 => (mLt ((x45 + ((2 : Int32) * ((V.fI l1A 1) - (2 : Int32)))) + (2 : Int32)) fun x46 => (if x45 < (1 : Int32) then some ((0 : Int32), V) else (if (3 : Int32) < 0 ∨ 12 ≤ ((3 : Int32)).toNatClampNeg then none else (if (wkTab 1 ((3 : Int32)).toNatClampNeg) < x45 then some ((0 : Int32), V) else (if (3 : Int32) < 0 ∨ 12 ≤ ((3 : Int32)).toNatClampNeg then none else (if x46 ≤ (wkTab 4 ((3 : Int32)).toNatClampNeg) then (if (3 : Int32) < 0 ∨ 12 ≤ ((3 : Int32)).toNatClampNeg then none else (mBW (mX3_begin F l2A ((3 : Int32)) (x45) ((wkTab 3 ((3 : Int32)).toNatClampNeg)) V) fun v53 V54 => (rec 0 l1A l2A (x45) ((0 : Int32)) V54))) else some ((0 : Int32), V))))))))
def mX4_carriesFlows (F : Nat) (l1A : Nat) (l2A : Nat) (V : mV) : Option (Int32 × mV) := mX4_carriesFlows_s F (mX4_carriesFlows_go F F) l1A l2A V
set_option maxHeartbeats 4000000 in
set_option maxRecDepth 100000 in
theorem LX4_carriesFlows_go {α : Nat → Nat} {F : Nat} {Ln : Nat → Nat} {v : Int32} {V1 : mV} {Φ : (Int32 → wPS → Prop)} : ∀ k' : Nat, (∀ (l1A : Nat) (l2A : Nat) (l3I : Int32) (l5I : Int32) (S : wPS) (V : mV) , mRel α S Ln V → mK l1A = 3 → mK l2A = 3 → mX4_carriesFlows_go F k' 0 l1A l2A l3I l5I V = some (v, V1) → (∀ S1, mRel α S1 Ln V1 → mFr α S S1 → Φ v S1) → rX4_carriesFlows_go F k' 0 (α l1A) (α l2A) l3I l5I S Φ) ∧ (∀ (l1A : Nat) (l2A : Nat) (l5I : Int32) (S : wPS) (V : mV) , mRel α S Ln V → mK l1A = 3 → mK l2A = 3 → mX4_carriesFlows_go F k' 1 l1A l2A 0 l5I V = some (v, V1) → (∀ S1, mRel α S1 Ln V1 → mFr α S S1 → Φ v S1) → rX4_carriesFlows_go F k' 1 (α l1A) (α l2A) 0 l5I S Φ) := by
  intro k'
  induction k' with
  | zero => exact ⟨(fun _ _ _ _ _ _ _ _ _ h _ => by cases h), (fun _ _ _ _ _ _ _ _ h _ => by cases h)⟩
  | succ k' ih =>
    refine ⟨?_, ?_⟩
    · intro l1A l2A l3I l5I S V R sl1A sl2A h k
      rw [mX4_carriesFlows_go, if_pos rfl] at h
      rw [rX4_carriesFlows_go, if_pos rfl]
      unfold mX4_carriesFlows_b0 at h
      unfold rX4_carriesFlows_b0
      refine mIf h Iff.rfl (fun c1 h => ?_) (fun c1 h => ?_)
      · exact ih.2 _ _ _ _ _ R sl1A sl2A h (fun S1 R1 F1 => k S1 R1 F1)
      · obtain ⟨v2, V3, hv2, h⟩ := mBW_some h
        refine LX3_addItem hv2 R sl2A rfl rfl rfl rfl (fun S3 R3 F3 => ?_)
        obtain ⟨v7, V8, hv7, h⟩ := mBW_some h
        refine LX3_addTo hv7 R3 sl2A rfl rfl rfl rfl (fun S8 R8 F8 => ?_)
        obtain ⟨v12, hv12, h⟩ := mBN_some h
        refine LX3_at hv12 R8 sl1A rfl rfl rfl ?_
        obtain ⟨v17, V18, hv17, h⟩ := mBW_some h
        refine LX3_addTo hv17 R8 sl2A rfl rfl rfl rfl (fun S18 R18 F18 => ?_)
        refine mLet h rfl (fun x22 ex22 h => ?_)
        exact ih.1 _ _ _ _ _ _ R18 sl1A sl2A h (fun S1 R1 F1 => k S1 R1 (F3.tr (F8.tr (F18.tr F1))))
    · intro l1A l2A l5I S V R sl1A sl2A h k
      rw [mX4_carriesFlows_go, if_neg (by decide), if_pos rfl] at h
      rw [rX4_carriesFlows_go, if_neg (by decide), if_pos rfl]
      unfold mX4_carriesFlows_b1 at h
      unfold rX4_carriesFlows_b1
      refine mIf h (by rw [show gEntry_size S (α l1A) = V.fI l1A 1 from (mg_I (i := l1A) R (mO3 sl1A) rfl 1)]) (fun c2 h => ?_) (fun c2 h => ?_)
      · obtain ⟨v24, V25, hv24, h⟩ := mBW_some h
        refine LX4_addBalance hv24 R sl1A sl2A rfl rfl rfl rfl (by rw [show gEntry_boundNow S (α l1A) = V.fI l1A 8 from (mg_I (i := l1A) R (mO3 sl1A) rfl 8)]) (fun S25 R25 F25 => ?_)
        obtain ⟨v29, V30, hv29, h⟩ := mBW_some h
        refine LX4_addBalance hv29 R25 sl1A sl2A rfl rfl rfl rfl (by rw [show gEntry_boundNow S25 (α l1A) = V25.fI l1A 8 from (mg_I (i := l1A) R25 (mO3 sl1A) rfl 8)]) (fun S30 R30 F30 => ?_)
        obtain ⟨rfl, rfl⟩ := mRW h
        exact k _ R30 (F25.tr F30)
      · obtain ⟨v34, V35, hv34, h⟩ := mBW_some h
        refine LX4_addBalance hv34 R sl1A sl2A rfl rfl rfl rfl rfl (fun S35 R35 F35 => ?_)
        obtain ⟨v39, V40, hv39, h⟩ := mBW_some h
        refine LX4_addBalance hv39 R35 sl1A sl2A rfl rfl rfl rfl rfl (fun S40 R40 F40 => ?_)
        refine mLet h rfl (fun x44 ex44 h => ?_)
        exact ih.2 _ _ _ _ _ R40 sl1A sl2A h (fun S1 R1 F1 => k S1 R1 (F35.tr (F40.tr F1)))
set_option maxHeartbeats 4000000 in
set_option maxRecDepth 100000 in
theorem LX4_carriesFlows {α : Nat → Nat} {F : Nat} {S : wPS} {Ln : Nat → Nat} {V V1 : mV} {v : Int32} {Φ : (Int32 → wPS → Prop)} {l0Ax : Nat} {l1Ax : Nat} {l1A : Nat} {l2Ax : Nat} {l2A : Nat} (h : mX4_carriesFlows F l1A l2A V = some (v, V1)) (R : mRel α S Ln V) (sl1A : mK l1A = 3) (sl2A : mK l2A = 3) (el0A : l0Ax = α 1) (el1A : l1Ax = α l1A) (el2A : l2Ax = α l2A) (k : (∀ S1, mRel α S1 Ln V1 → mFr α S S1 → Φ v S1)) : rX4_carriesFlows F l0Ax l1Ax l2Ax S Φ := by
  have el0A := el0A.symm
  subst el0A
  have el1A := el1A.symm
  subst el1A
  have el2A := el2A.symm
  subst el2A
  have ih := LX4_carriesFlows_go  (α := α) (F := F) (v := v) (Ln := Ln) (Φ := Φ) (V1 := V1) F
  unfold mX4_carriesFlows mX4_carriesFlows_s at h
  unfold rX4_carriesFlows rX4_carriesFlows_s
  refine mLet h (by rw [show gEntry_itemCount S (α l1A) = V.fI l1A 6 from (mg_I (i := l1A) R (mO3 sl1A) rfl 6)]) (fun x45 ex45 h => ?_)
  refine mLet h (by rw [show gEntry_size S (α l1A) = V.fI l1A 1 from (mg_I (i := l1A) R (mO3 sl1A) rfl 1)]) (fun x46 ex46 h => ?_)
  refine mIf h Iff.rfl (fun c3 h => ?_) (fun c3 h => ?_)
  · obtain ⟨rfl, rfl⟩ := mRW h
    exact k _ R mFr.rf
  · refine mGd h Iff.rfl (fun c4 h => ?_)
    refine mIf h Iff.rfl (fun c5 h => ?_) (fun c5 h => ?_)
    · obtain ⟨rfl, rfl⟩ := mRW h
      exact k _ R mFr.rf
    · refine mGd h Iff.rfl (fun c6 h => ?_)
      refine mIf h Iff.rfl (fun c7 h => ?_) (fun c7 h => ?_)
      · refine mGd h Iff.rfl (fun c8 h => ?_)
        obtain ⟨v53, V54, hv53, h⟩ := mBW_some h
        refine LX3_begin hv53 R sl2A rfl rfl rfl rfl (fun S54 R54 F54 => ?_)
        exact ih.1 _ _ _ _ _ _ R54 sl1A sl2A h (fun S1 R1 F1 => k S1 R1 (F54.tr F1))
      · obtain ⟨rfl, rfl⟩ := mRW h
        exact k _ R mFr.rf
def mX4_carriesEdges_b0 (F : Nat) (rec : Nat → Nat → Nat → Int32 → Int32 → Int32 → mV → Option (Int32 × mV)) (l1A : Nat) (l2A : Nat) (l3I : Int32) (l4I : Int32) (V : mV) : Option (Int32 × mV) :=
  (if (V.fI l1A 1) ≤ l4I then (rec 1 l1A l2A (l3I) ((0 : Int32)) 0 V) else (mBW (mX4_addSomeEdge F l1A l2A (l4I) V) fun v2 V3 => (if v2 = 0 then some ((0 : Int32), V3) else (mLt (l4I + (1 : Int32)) fun x8 => (rec 0 l1A l2A (l3I) (x8) 0 V3)))))
def mX4_carriesEdges_b1 (F : Nat) (rec : Nat → Nat → Nat → Int32 → Int32 → Int32 → mV → Option (Int32 × mV)) (l1A : Nat) (l2A : Nat) (l3I : Int32) (l4I : Int32) (V : mV) : Option (Int32 × mV) :=
  (if l3I ≤ l4I then (if (4 : Int32) < 0 ∨ 12 ≤ ((4 : Int32)).toNatClampNeg then none else (if (wkTab 4 ((4 : Int32)).toNatClampNeg) < (V.fI l2A 6) then some ((0 : Int32), V) else some ((1 : Int32), V))) else (mLt (l4I + (1 : Int32)) fun x12 => (rec 2 l1A l2A (l3I) (l4I) (x12) V)))
def mX4_carriesEdges_b2 (F : Nat) (rec : Nat → Nat → Nat → Int32 → Int32 → Int32 → mV → Option (Int32 × mV)) (l1A : Nat) (l2A : Nat) (l3I : Int32) (l4I : Int32) (l5I : Int32) (V : mV) : Option (Int32 × mV) :=
  (if l3I ≤ l5I then (mLt (l4I + (1 : Int32)) fun x14 => (rec 1 l1A l2A (l3I) (x14) 0 V)) else (mBN (mX3_at F l1A (l5I) ((0 : Int32)) V) fun v15 => (mBN (mX3_at F l1A (l5I) ((1 : Int32)) V) fun v20 => (mLt (((1 : Int32) <<< (v15 &&& 31)) ||| ((1 : Int32) <<< (v20 &&& 31))) fun x25 => (mBN (mX3_at F l1A (l4I) ((0 : Int32)) V) fun v26 => (mBN (mX11_has F (x25) (v26)) fun v31 => (if v31 = 0 then (mBN (mX3_at F l1A (l4I) ((1 : Int32)) V) fun v43 => (mBN (mX11_has F (x25) (v43)) fun v48 => (if v48 = 0 then (mLt (l5I + (1 : Int32)) fun x54 => (rec 2 l1A l2A (l3I) (l4I) (x54) V)) else (mBW (mX3_addItem F l2A (((-l4I) - (1 : Int32))) (((-l5I) - (1 : Int32))) ((0 : Int32)) V) fun v55 V56 => (mLt (l5I + (1 : Int32)) fun x60 => (rec 2 l1A l2A (l3I) (l4I) (x60) V56)))))) else (mBW (mX3_addItem F l2A (((-l4I) - (1 : Int32))) (((-l5I) - (1 : Int32))) ((0 : Int32)) V) fun v37 V38 => (mLt (l5I + (1 : Int32)) fun x42 => (rec 2 l1A l2A (l3I) (l4I) (x42) V38))))))))))
def mX4_carriesEdges_go (F : Nat) : Nat → Nat → Nat → Nat → Int32 → Int32 → Int32 → mV → Option (Int32 × mV)
  | 0, _, _, _, _, _, _, _ => none
  | k' + 1, lab, l1A, l2A, l3I, l4I, l5I, V => if lab = 0 then mX4_carriesEdges_b0 F (mX4_carriesEdges_go F k') l1A l2A l3I l4I V else if lab = 1 then mX4_carriesEdges_b1 F (mX4_carriesEdges_go F k') l1A l2A l3I l4I V else if lab = 2 then mX4_carriesEdges_b2 F (mX4_carriesEdges_go F k') l1A l2A l3I l4I l5I V else none
def mX4_carriesEdges_s (F : Nat) (rec : Nat → Nat → Nat → Int32 → Int32 → Int32 → mV → Option (Int32 × mV)) (l1A : Nat) (l2A : Nat) (V : mV) : Option (Int32 × mV) :=
  (mLt (V.fI l1A 6) fun x61 => (if (V.fI l1A 8) = 0 then (if x61 < (1 : Int32) then some ((0 : Int32), V) else (if (4 : Int32) < 0 ∨ 12 ≤ ((4 : Int32)).toNatClampNeg then none else (if x61 ≤ (wkTab 1 ((4 : Int32)).toNatClampNeg) then (mBW (mX3_begin F l2A ((4 : Int32)) (x61) (x61) V) fun v66 V67 => (rec 0 l1A l2A (x61) ((0 : Int32)) 0 V67)) else some ((0 : Int32), V)))) else some ((0 : Int32), V)))
def mX4_carriesEdges (F : Nat) (l1A : Nat) (l2A : Nat) (V : mV) : Option (Int32 × mV) := mX4_carriesEdges_s F (mX4_carriesEdges_go F F) l1A l2A V
set_option maxHeartbeats 4000000 in
set_option maxRecDepth 100000 in
theorem LX4_carriesEdges_go {α : Nat → Nat} {F : Nat} {Ln : Nat → Nat} {v : Int32} {V1 : mV} {Φ : (Int32 → wPS → Prop)} : ∀ k' : Nat, (∀ (l1A : Nat) (l2A : Nat) (l3I : Int32) (l4I : Int32) (S : wPS) (V : mV) , mRel α S Ln V → mK l1A = 3 → mK l2A = 3 → mX4_carriesEdges_go F k' 0 l1A l2A l3I l4I 0 V = some (v, V1) → (∀ S1, mRel α S1 Ln V1 → mFr α S S1 → Φ v S1) → rX4_carriesEdges_go F k' 0 (α l1A) (α l2A) l3I l4I 0 S Φ) ∧ (∀ (l1A : Nat) (l2A : Nat) (l3I : Int32) (l4I : Int32) (S : wPS) (V : mV) , mRel α S Ln V → mK l1A = 3 → mK l2A = 3 → mX4_carriesEdges_go F k' 1 l1A l2A l3I l4I 0 V = some (v, V1) → (∀ S1, mRel α S1 Ln V1 → mFr α S S1 → Φ v S1) → rX4_carriesEdges_go F k' 1 (α l1A) (α l2A) l3I l4I 0 S Φ) ∧ (∀ (l1A : Nat) (l2A : Nat) (l3I : Int32) (l4I : Int32) (l5I : Int32) (S : wPS) (V : mV) , mRel α S Ln V → mK l1A = 3 → mK l2A = 3 → mX4_carriesEdges_go F k' 2 l1A l2A l3I l4I l5I V = some (v, V1) → (∀ S1, mRel α S1 Ln V1 → mFr α S S1 → Φ v S1) → rX4_carriesEdges_go F k' 2 (α l1A) (α l2A) l3I l4I l5I S Φ) := by
  intro k'
  induction k' with
  | zero => exact ⟨(fun _ _ _ _ _ _ _ _ _ h _ => by cases h), (fun _ _ _ _ _ _ _ _ _ h _ => by cases h), (fun _ _ _ _ _ _ _ _ _ _ h _ => by cases h)⟩
  | succ k' ih =>
    refine ⟨?_, ?_, ?_⟩
    · intro l1A l2A l3I l4I S V R sl1A sl2A h k
      rw [mX4_carriesEdges_go, if_pos rfl] at h
      rw [rX4_carriesEdges_go, if_pos rfl]
      unfold mX4_carriesEdges_b0 at h
      unfold rX4_carriesEdges_b0
      refine mIf h (by rw [show gEntry_size S (α l1A) = V.fI l1A 1 from (mg_I (i := l1A) R (mO3 sl1A) rfl 1)]) (fun c1 h => ?_) (fun c1 h => ?_)
      · exact ih.2.1 _ _ _ _ _ _ R sl1A sl2A h (fun S1 R1 F1 => k S1 R1 F1)
      · obtain ⟨v2, V3, hv2, h⟩ := mBW_some h
        refine LX4_addSomeEdge hv2 R sl1A sl2A rfl rfl rfl (fun S3 R3 F3 => ?_)
        refine mIf h Iff.rfl (fun c2 h => ?_) (fun c2 h => ?_)
        · obtain ⟨rfl, rfl⟩ := mRW h
          exact k _ R3 F3
        · refine mLet h rfl (fun x8 ex8 h => ?_)
          exact ih.1 _ _ _ _ _ _ R3 sl1A sl2A h (fun S1 R1 F1 => k S1 R1 (F3.tr F1))
    · intro l1A l2A l3I l4I S V R sl1A sl2A h k
      rw [mX4_carriesEdges_go, if_neg (by decide), if_pos rfl] at h
      rw [rX4_carriesEdges_go, if_neg (by decide), if_pos rfl]
      unfold mX4_carriesEdges_b1 at h
      unfold rX4_carriesEdges_b1
      refine mIf h Iff.rfl (fun c3 h => ?_) (fun c3 h => ?_)
      · refine mGd h Iff.rfl (fun c4 h => ?_)
        refine mIf h (by rw [show gEntry_itemCount S (α l2A) = V.fI l2A 6 from (mg_I (i := l2A) R (mO3 sl2A) rfl 6)]) (fun c5 h => ?_) (fun c5 h => ?_)
        · obtain ⟨rfl, rfl⟩ := mRW h
          exact k _ R mFr.rf
        · obtain ⟨rfl, rfl⟩ := mRW h
          exact k _ R mFr.rf
      · refine mLet h rfl (fun x12 ex12 h => ?_)
        exact ih.2.2 _ _ _ _ _ _ _ R sl1A sl2A h (fun S1 R1 F1 => k S1 R1 F1)
    · intro l1A l2A l3I l4I l5I S V R sl1A sl2A h k
      rw [mX4_carriesEdges_go, if_neg (by decide), if_neg (by decide), if_pos rfl] at h
      rw [rX4_carriesEdges_go, if_neg (by decide), if_neg (by decide), if_pos rfl]
      unfold mX4_carriesEdges_b2 at h
      unfold rX4_carriesEdges_b2
      refine mIf h Iff.rfl (fun c6 h => ?_) (fun c6 h => ?_)
      · refine mLet h rfl (fun x14 ex14 h => ?_)
        exact ih.2.1 _ _ _ _ _ _ R sl1A sl2A h (fun S1 R1 F1 => k S1 R1 F1)
      · obtain ⟨v15, hv15, h⟩ := mBN_some h
        refine LX3_at hv15 R sl1A rfl rfl rfl ?_
        obtain ⟨v20, hv20, h⟩ := mBN_some h
        refine LX3_at hv20 R sl1A rfl rfl rfl ?_
        refine mLet h rfl (fun x25 ex25 h => ?_)
        obtain ⟨v26, hv26, h⟩ := mBN_some h
        refine LX3_at hv26 R sl1A rfl rfl rfl ?_
        obtain ⟨v31, hv31, h⟩ := mBN_some h
        refine LX11_has hv31 rfl rfl ?_
        refine mIf h Iff.rfl (fun c7 h => ?_) (fun c7 h => ?_)
        · obtain ⟨v43, hv43, h⟩ := mBN_some h
          refine LX3_at hv43 R sl1A rfl rfl rfl ?_
          obtain ⟨v48, hv48, h⟩ := mBN_some h
          refine LX11_has hv48 rfl rfl ?_
          refine mIf h Iff.rfl (fun c8 h => ?_) (fun c8 h => ?_)
          · refine mLet h rfl (fun x54 ex54 h => ?_)
            exact ih.2.2 _ _ _ _ _ _ _ R sl1A sl2A h (fun S1 R1 F1 => k S1 R1 F1)
          · obtain ⟨v55, V56, hv55, h⟩ := mBW_some h
            refine LX3_addItem hv55 R sl2A rfl rfl rfl rfl (fun S56 R56 F56 => ?_)
            refine mLet h rfl (fun x60 ex60 h => ?_)
            exact ih.2.2 _ _ _ _ _ _ _ R56 sl1A sl2A h (fun S1 R1 F1 => k S1 R1 (F56.tr F1))
        · obtain ⟨v37, V38, hv37, h⟩ := mBW_some h
          refine LX3_addItem hv37 R sl2A rfl rfl rfl rfl (fun S38 R38 F38 => ?_)
          refine mLet h rfl (fun x42 ex42 h => ?_)
          exact ih.2.2 _ _ _ _ _ _ _ R38 sl1A sl2A h (fun S1 R1 F1 => k S1 R1 (F38.tr F1))
set_option maxHeartbeats 4000000 in
set_option maxRecDepth 100000 in
theorem LX4_carriesEdges {α : Nat → Nat} {F : Nat} {S : wPS} {Ln : Nat → Nat} {V V1 : mV} {v : Int32} {Φ : (Int32 → wPS → Prop)} {l0Ax : Nat} {l1Ax : Nat} {l1A : Nat} {l2Ax : Nat} {l2A : Nat} (h : mX4_carriesEdges F l1A l2A V = some (v, V1)) (R : mRel α S Ln V) (sl1A : mK l1A = 3) (sl2A : mK l2A = 3) (el0A : l0Ax = α 1) (el1A : l1Ax = α l1A) (el2A : l2Ax = α l2A) (k : (∀ S1, mRel α S1 Ln V1 → mFr α S S1 → Φ v S1)) : rX4_carriesEdges F l0Ax l1Ax l2Ax S Φ := by
  have el0A := el0A.symm
  subst el0A
  have el1A := el1A.symm
  subst el1A
  have el2A := el2A.symm
  subst el2A
  have ih := LX4_carriesEdges_go  (α := α) (F := F) (v := v) (Ln := Ln) (Φ := Φ) (V1 := V1) F
  unfold mX4_carriesEdges mX4_carriesEdges_s at h
  unfold rX4_carriesEdges rX4_carriesEdges_s
  refine mLet h (by rw [show gEntry_itemCount S (α l1A) = V.fI l1A 6 from (mg_I (i := l1A) R (mO3 sl1A) rfl 6)]) (fun x61 ex61 h => ?_)
  refine mIf h (by rw [show gEntry_boundNow S (α l1A) = V.fI l1A 8 from (mg_I (i := l1A) R (mO3 sl1A) rfl 8)]) (fun c9 h => ?_) (fun c9 h => ?_)
  · refine mIf h Iff.rfl (fun c10 h => ?_) (fun c10 h => ?_)
    · obtain ⟨rfl, rfl⟩ := mRW h
      exact k _ R mFr.rf
    · refine mGd h Iff.rfl (fun c11 h => ?_)
      refine mIf h Iff.rfl (fun c12 h => ?_) (fun c12 h => ?_)
      · obtain ⟨v66, V67, hv66, h⟩ := mBW_some h
        refine LX3_begin hv66 R sl2A rfl rfl rfl rfl (fun S67 R67 F67 => ?_)
        exact ih.1 _ _ _ _ _ _ R67 sl1A sl2A h (fun S1 R1 F1 => k S1 R1 (F67.tr F1))
      · obtain ⟨rfl, rfl⟩ := mRW h
        exact k _ R mFr.rf
  · obtain ⟨rfl, rfl⟩ := mRW h
    exact k _ R mFr.rf
def mX4_canBringBack (F : Nat) (Ln : Nat → Nat) (l1A : Nat) (l2A : Nat) (V : mV) : Option Int32 :=
  (if (V.fI l1A 0) = (1 : Int32) then (if (V.fI l2A 0) = 0 then some ((1 : Int32)) else some ((0 : Int32))) else (if (V.fI l1A 0) = (3 : Int32) then (if (V.fI l2A 0) = (1 : Int32) then (if (V.fI l1A 11) = (121 : Int32) then (mBN (mX9_at F Ln (l1A + 2) ((0 : Int32)) V) fun v8 => (if v8 = (1 : Int32) then some ((1 : Int32)) else some ((0 : Int32)))) else some ((0 : Int32))) else some ((0 : Int32))) else (if (V.fI l1A 0) = (4 : Int32) then (if (V.fI l2A 0) = 0 then (if (V.fI l1A 11) = (121 : Int32) then some ((1 : Int32)) else some ((0 : Int32))) else some ((0 : Int32))) else some ((0 : Int32)))))
set_option maxHeartbeats 4000000 in
set_option maxRecDepth 100000 in
theorem LX4_canBringBack {α : Nat → Nat} {F : Nat} {S : wPS} {Ln : Nat → Nat} {V : mV} {v : Int32} {Φ : (Int32 → wPS → Prop)} {l0Ax : Nat} {l1Ax : Nat} {l1A : Nat} {l2Ax : Nat} {l2A : Nat} (h : mX4_canBringBack F Ln l1A l2A V = some v) (R : mRel α S Ln V) (sl1A : mK l1A = 3) (sl2A : mK l2A = 3) (el0A : l0Ax = α 1) (el1A : l1Ax = α l1A) (el2A : l2Ax = α l2A) (k : (Φ v S)) : rX4_canBringBack F l0Ax l1Ax l2Ax S Φ := by
  have el0A := el0A.symm
  subst el0A
  have el1A := el1A.symm
  subst el1A
  have el2A := el2A.symm
  subst el2A
  unfold mX4_canBringBack at h
  unfold rX4_canBringBack
  refine mIf h (by rw [show gEntry_kind S (α l1A) = V.fI l1A 0 from (mg_I (i := l1A) R (mO3 sl1A) rfl 0)]) (fun c1 h => ?_) (fun c1 h => ?_)
  · refine mIf h (by rw [show gEntry_kind S (α l2A) = V.fI l2A 0 from (mg_I (i := l2A) R (mO3 sl2A) rfl 0)]) (fun c2 h => ?_) (fun c2 h => ?_)
    · cases h
      exact k
    · cases h
      exact k
  · refine mIf h (by rw [show gEntry_kind S (α l1A) = V.fI l1A 0 from (mg_I (i := l1A) R (mO3 sl1A) rfl 0)]) (fun c3 h => ?_) (fun c3 h => ?_)
    · refine mIf h (by rw [show gEntry_kind S (α l2A) = V.fI l2A 0 from (mg_I (i := l2A) R (mO3 sl2A) rfl 0)]) (fun c4 h => ?_) (fun c4 h => ?_)
      · refine mIf h (by rw [show gEntry_reply S (α l1A) = V.fI l1A 11 from (mg_I (i := l1A) R (mO3 sl1A) rfl 11)]) (fun c5 h => ?_) (fun c5 h => ?_)
        · obtain ⟨v8, hv8, h⟩ := mBN_some h
          refine LX9_at hv8 R (mKe2 sl1A) (mg_A (t := (l1A + 2)) R (mRe sl1A rfl) rfl) rfl ?_
          refine mIf h Iff.rfl (fun c6 h => ?_) (fun c6 h => ?_)
          · cases h
            exact k
          · cases h
            exact k
        · cases h
          exact k
      · cases h
        exact k
    · refine mIf h (by rw [show gEntry_kind S (α l1A) = V.fI l1A 0 from (mg_I (i := l1A) R (mO3 sl1A) rfl 0)]) (fun c7 h => ?_) (fun c7 h => ?_)
      · refine mIf h (by rw [show gEntry_kind S (α l2A) = V.fI l2A 0 from (mg_I (i := l2A) R (mO3 sl2A) rfl 0)]) (fun c8 h => ?_) (fun c8 h => ?_)
        · refine mIf h (by rw [show gEntry_reply S (α l1A) = V.fI l1A 11 from (mg_I (i := l1A) R (mO3 sl1A) rfl 11)]) (fun c9 h => ?_) (fun c9 h => ?_)
          · cases h
            exact k
          · cases h
            exact k
        · cases h
          exact k
      · cases h
        exact k
def mX5_clearTable_b0 (F : Nat) (rec : Nat → Int32 → mV → Option (Unit × mV)) (l1I : Int32) (V : mV) : Option (Unit × mV) :=
  (if (14 : Int32) ≤ l1I then some ((), V) else (if l1I < 0 ∨ 14 ≤ (l1I).toNatClampNeg then none else (mBW (mJ7_fill_d0a16 F (36 + (l1I).toNatClampNeg) ((0 : Int64)) V) fun v4 V5 => (mLt (l1I + (1 : Int32)) fun x9 => (rec 0 (x9) V5)))))
def mX5_clearTable_go (F : Nat) : Nat → Nat → Int32 → mV → Option (Unit × mV)
  | 0, _, _, _ => none
  | k' + 1, lab, l1I, V => if lab = 0 then mX5_clearTable_b0 F (mX5_clearTable_go F k') l1I V else none
def mX5_clearTable_s (F : Nat) (rec : Nat → Int32 → mV → Option (Unit × mV)) (V : mV) : Option (Unit × mV) :=
  (rec 0 ((0 : Int32)) V)
def mX5_clearTable (F : Nat) (V : mV) : Option (Unit × mV) := mX5_clearTable_s F (mX5_clearTable_go F F) V
set_option maxHeartbeats 4000000 in
set_option maxRecDepth 100000 in
theorem LX5_clearTable_go {α : Nat → Nat} {F : Nat} {Ln : Nat → Nat} {v : Unit} {V1 : mV} {Φ : (Unit → wPS → Prop)} : ∀ k' : Nat, (∀ (l1I : Int32) (S : wPS) (V : mV) , mRel α S Ln V → mX5_clearTable_go F k' 0 l1I V = some (v, V1) → (∀ S1, mRel α S1 Ln V1 → mFr α S S1 → Φ v S1) → rX5_clearTable_go F k' 0 (α 4) l1I S Φ) := by
  intro k'
  induction k' with
  | zero => exact (fun _ _ _ _ h _ => by cases h)
  | succ k' ih =>
    intro l1I S V R h k
    rw [mX5_clearTable_go, if_pos rfl] at h
    rw [rX5_clearTable_go, if_pos rfl]
    unfold mX5_clearTable_b0 at h
    unfold rX5_clearTable_b0
    refine mIf h Iff.rfl (fun c1 h => ?_) (fun c1 h => ?_)
    · obtain ⟨rfl, rfl⟩ := mRW h
      exact k _ R mFr.rf
    · refine mGd h (by rw [show S.len (wkAd (gInequalities_table S (α 4))) = 14 from (mg_len (i := 35) R (mAr (by decide)) (mg_A (t := 35) R rfl rfl))]) (fun c2 h => ?_)
      obtain ⟨v4, V5, hv4, h⟩ := mBW_some h
      refine LJ7_fill_d0a16 hv4 R (mKA35 (Nat.lt_of_not_le (fun z => c2 (Or.inr z)))) (mg_RA R (mRA35 (Nat.lt_of_not_le (fun z => c2 (Or.inr z)))) (mg_A (t := 35) R rfl rfl) rfl) rfl (fun S5 R5 F5 => ?_)
      refine mLet h rfl (fun x9 ex9 h => ?_)
      exact ih _ _ _ R5 h (fun S1 R1 F1 => k S1 R1 (F5.tr F1))
set_option maxHeartbeats 4000000 in
set_option maxRecDepth 100000 in
theorem LX5_clearTable {α : Nat → Nat} {F : Nat} {S : wPS} {Ln : Nat → Nat} {V V1 : mV} {v : Unit} {Φ : (Unit → wPS → Prop)} {l0Ax : Nat} (h : mX5_clearTable F V = some (v, V1)) (R : mRel α S Ln V) (el0A : l0Ax = α 4) (k : (∀ S1, mRel α S1 Ln V1 → mFr α S S1 → Φ v S1)) : rX5_clearTable F l0Ax S Φ := by
  have el0A := el0A.symm
  subst el0A
  have ih := LX5_clearTable_go  (α := α) (F := F) (v := v) (Ln := Ln) (Φ := Φ) (V1 := V1) F
  unfold mX5_clearTable mX5_clearTable_s at h
  unfold rX5_clearTable rX5_clearTable_s
  exact ih _ _ _ R h (fun S1 R1 F1 => k S1 R1 F1)
def mX5_improves_b0 (F : Nat) (rec : Nat → Int32 → Int32 → Int32 → Int32 → mV → Option (Int32 × mV)) (l1I : Int32) (l2I : Int32) (l3I : Int32) (V : mV) : Option (Int32 × mV) :=
  (if (V.fI 4 5) ≤ l3I then (if 0 ≤ l2I then (mBN (mX5_leavingRow F (l2I) V) fun v3 => (if 0 ≤ v3 then (mBW (mX5_exchange F (v3) (l2I) V) fun v9 V10 => some ((1 : Int32), V10)) else some ((0 : Int32), V))) else some ((0 : Int32), V)) else (if l2I < 0 then (rec 1 (l1I) (l2I) (l3I) ((1 : Int32)) V) else (if l3I < 0 ∨ 18 ≤ (l3I).toNatClampNeg then none else (if l2I < 0 ∨ 18 ≤ (l2I).toNatClampNeg then none else (if (V.rI 51 (l2I).toNatClampNeg) ≤ (V.rI 51 (l3I).toNatClampNeg) then (rec 1 (l1I) (l2I) (l3I) ((0 : Int32)) V) else (rec 1 (l1I) (l2I) (l3I) ((1 : Int32)) V))))))
def mX5_improves_b1 (F : Nat) (rec : Nat → Int32 → Int32 → Int32 → Int32 → mV → Option (Int32 × mV)) (l1I : Int32) (l2I : Int32) (l3I : Int32) (s0I : Int32) (V : mV) : Option (Int32 × mV) :=
  (if l1I < 0 ∨ 14 ≤ (l1I).toNatClampNeg then none else (if l3I < 0 ∨ 18 ≤ (l3I).toNatClampNeg then none else (if (lg_cmp (V.rJ (36 + (l1I).toNatClampNeg) (l3I).toNatClampNeg) (0 : Int64)) ≤ 0 then (mLt (l3I + (1 : Int32)) fun x22 => (rec 0 (l1I) (l2I) (x22) 0 V)) else (if l3I < 0 ∨ 18 ≤ (l3I).toNatClampNeg then none else (if (((V.fI 4 3) >>> ((V.rI 51 (l3I).toNatClampNeg) &&& 31)) &&& (1 : Int32)) = 0 then (if s0I = 0 then (mLt (l3I + (1 : Int32)) fun x27 => (rec 0 (l1I) (l2I) (x27) 0 V)) else (mLt (l3I + (1 : Int32)) fun x28 => (rec 0 (l1I) (l3I) (x28) 0 V))) else (mLt (l3I + (1 : Int32)) fun x25 => (rec 0 (l1I) (l2I) (x25) 0 V)))))))
def mX5_improves_go (F : Nat) : Nat → Nat → Int32 → Int32 → Int32 → Int32 → mV → Option (Int32 × mV)
  | 0, _, _, _, _, _, _ => none
  | k' + 1, lab, l1I, l2I, l3I, s0I, V => if lab = 0 then mX5_improves_b0 F (mX5_improves_go F k') l1I l2I l3I V else if lab = 1 then mX5_improves_b1 F (mX5_improves_go F k') l1I l2I l3I s0I V else none
def mX5_improves_s (F : Nat) (rec : Nat → Int32 → Int32 → Int32 → Int32 → mV → Option (Int32 × mV)) (l1I : Int32) (V : mV) : Option (Int32 × mV) :=
  (rec 0 (l1I) ((-1 : Int32)) ((0 : Int32)) 0 V)
def mX5_improves (F : Nat) (l1I : Int32) (V : mV) : Option (Int32 × mV) := mX5_improves_s F (mX5_improves_go F F) l1I V
set_option maxHeartbeats 4000000 in
set_option maxRecDepth 100000 in
theorem LX5_improves_go {α : Nat → Nat} {F : Nat} {Ln : Nat → Nat} {v : Int32} {V1 : mV} {Φ : (Int32 → wPS → Prop)} : ∀ k' : Nat, (∀ (l1I : Int32) (l2I : Int32) (l3I : Int32) (S : wPS) (V : mV) , mRel α S Ln V → mX5_improves_go F k' 0 l1I l2I l3I 0 V = some (v, V1) → (∀ S1, mRel α S1 Ln V1 → mFr α S S1 → Φ v S1) → rX5_improves_go F k' 0 (α 4) l1I l2I l3I 0 S Φ) ∧ (∀ (l1I : Int32) (l2I : Int32) (l3I : Int32) (s0I : Int32) (S : wPS) (V : mV) , mRel α S Ln V → mX5_improves_go F k' 1 l1I l2I l3I s0I V = some (v, V1) → (∀ S1, mRel α S1 Ln V1 → mFr α S S1 → Φ v S1) → rX5_improves_go F k' 1 (α 4) l1I l2I l3I s0I S Φ) := by
  intro k'
  induction k' with
  | zero => exact ⟨(fun _ _ _ _ _ _ h _ => by cases h), (fun _ _ _ _ _ _ _ h _ => by cases h)⟩
  | succ k' ih =>
    refine ⟨?_, ?_⟩
    · intro l1I l2I l3I S V R h k
      rw [mX5_improves_go, if_pos rfl] at h
      rw [rX5_improves_go, if_pos rfl]
      unfold mX5_improves_b0 at h
      unfold rX5_improves_b0
      refine mIf h (by rw [show gInequalities_columns S (α 4) = V.fI 4 5 from (mg_I (i := 4) R (by decide) rfl 5)]) (fun c1 h => ?_) (fun c1 h => ?_)
      · refine mIf h Iff.rfl (fun c2 h => ?_) (fun c2 h => ?_)
        · obtain ⟨v3, hv3, h⟩ := mBN_some h
          refine LX5_leavingRow hv3 R rfl rfl ?_
          refine mIf h Iff.rfl (fun c3 h => ?_) (fun c3 h => ?_)
          · obtain ⟨v9, V10, hv9, h⟩ := mBW_some h
            refine LX5_exchange hv9 R rfl rfl rfl (fun S10 R10 F10 => ?_)
            obtain ⟨rfl, rfl⟩ := mRW h
            exact k _ R10 F10
          · obtain ⟨rfl, rfl⟩ := mRW h
            exact k _ R mFr.rf
        · obtain ⟨rfl, rfl⟩ := mRW h
          exact k _ R mFr.rf
      · refine mIf h Iff.rfl (fun c4 h => ?_) (fun c4 h => ?_)
        · exact ih.2 _ _ _ _ _ _ R h (fun S1 R1 F1 => k S1 R1 F1)
        · refine mGd h (by rw [show S.len (wkAd (gInequalities_columnLabels S (α 4))) = 18 from (mg_len (i := 51) R (mA13 rfl) (mg_A (t := 51) R rfl rfl))]) (fun c5 h => ?_)
          refine mGd h (by rw [show S.len (wkAd (gInequalities_columnLabels S (α 4))) = 18 from (mg_len (i := 51) R (mA13 rfl) (mg_A (t := 51) R rfl rfl))]) (fun c6 h => ?_)
          refine mIf h (by rw [show S.rI (wkAd (gInequalities_columnLabels S (α 4))) (l2I).toNatClampNeg = V.rI 51 (l2I).toNatClampNeg from (mg_rI (i := 51) R (mA13 rfl) (mg_A (t := 51) R rfl rfl) rfl), show S.rI (wkAd (gInequalities_columnLabels S (α 4))) (l3I).toNatClampNeg = V.rI 51 (l3I).toNatClampNeg from (mg_rI (i := 51) R (mA13 rfl) (mg_A (t := 51) R rfl rfl) rfl)]) (fun c7 h => ?_) (fun c7 h => ?_)
          · exact ih.2 _ _ _ _ _ _ R h (fun S1 R1 F1 => k S1 R1 F1)
          · exact ih.2 _ _ _ _ _ _ R h (fun S1 R1 F1 => k S1 R1 F1)
    · intro l1I l2I l3I s0I S V R h k
      rw [mX5_improves_go, if_neg (by decide), if_pos rfl] at h
      rw [rX5_improves_go, if_neg (by decide), if_pos rfl]
      unfold mX5_improves_b1 at h
      unfold rX5_improves_b1
      refine mGd h (by rw [show S.len (wkAd (gInequalities_table S (α 4))) = 14 from (mg_len (i := 35) R (mAr (by decide)) (mg_A (t := 35) R rfl rfl))]) (fun c8 h => ?_)
      refine mGd h (by rw [show S.len (wkAd (S.rA (wkAd (gInequalities_table S (α 4))) (l1I).toNatClampNeg)) = 18 from ((mg_len R (mA14 (mKA35 (Nat.lt_of_not_le (fun z => c8 (Or.inr z))))) (mg_RA R (mRA35 (Nat.lt_of_not_le (fun z => c8 (Or.inr z)))) (mg_A (t := 35) R rfl rfl) rfl)).trans (mLA35 (Nat.lt_of_not_le (fun z => c8 (Or.inr z)))))]) (fun c9 h => ?_)
      refine mIf h (by rw [show S.rJ (wkAd (S.rA (wkAd (gInequalities_table S (α 4))) (l1I).toNatClampNeg)) (l3I).toNatClampNeg = V.rJ (36 + (l1I).toNatClampNeg) (l3I).toNatClampNeg from (mg_rJ (i := (36 + (l1I).toNatClampNeg)) R (mA14 (mKA35 (Nat.lt_of_not_le (fun z => c8 (Or.inr z))))) (mg_RA R (mRA35 (Nat.lt_of_not_le (fun z => c8 (Or.inr z)))) (mg_A (t := 35) R rfl rfl) rfl) rfl)]) (fun c10 h => ?_) (fun c10 h => ?_)
      · refine mLet h rfl (fun x22 ex22 h => ?_)
        exact ih.1 _ _ _ _ _ R h (fun S1 R1 F1 => k S1 R1 F1)
      · refine mGd h (by rw [show S.len (wkAd (gInequalities_columnLabels S (α 4))) = 18 from (mg_len (i := 51) R (mA13 rfl) (mg_A (t := 51) R rfl rfl))]) (fun c11 h => ?_)
        refine mIf h (by rw [show S.rI (wkAd (gInequalities_columnLabels S (α 4))) (l3I).toNatClampNeg = V.rI 51 (l3I).toNatClampNeg from (mg_rI (i := 51) R (mA13 rfl) (mg_A (t := 51) R rfl rfl) rfl), show gInequalities_locked S (α 4) = V.fI 4 3 from (mg_I (i := 4) R (by decide) rfl 3)]) (fun c12 h => ?_) (fun c12 h => ?_)
        · refine mIf h Iff.rfl (fun c13 h => ?_) (fun c13 h => ?_)
          · refine mLet h rfl (fun x27 ex27 h => ?_)
            exact ih.1 _ _ _ _ _ R h (fun S1 R1 F1 => k S1 R1 F1)
          · refine mLet h rfl (fun x28 ex28 h => ?_)
            exact ih.1 _ _ _ _ _ R h (fun S1 R1 F1 => k S1 R1 F1)
        · refine mLet h rfl (fun x25 ex25 h => ?_)
          exact ih.1 _ _ _ _ _ R h (fun S1 R1 F1 => k S1 R1 F1)
set_option maxHeartbeats 4000000 in
set_option maxRecDepth 100000 in
theorem LX5_improves {α : Nat → Nat} {F : Nat} {S : wPS} {Ln : Nat → Nat} {V V1 : mV} {v : Int32} {Φ : (Int32 → wPS → Prop)} {l0Ax : Nat} {l1Ix l1I : Int32} (h : mX5_improves F l1I V = some (v, V1)) (R : mRel α S Ln V) (el0A : l0Ax = α 4) (el1I : l1Ix = l1I) (k : (∀ S1, mRel α S1 Ln V1 → mFr α S S1 → Φ v S1)) : rX5_improves F l0Ax l1Ix S Φ := by
  have el0A := el0A.symm
  subst el0A
  have el1I := el1I.symm
  subst el1I
  have ih := LX5_improves_go  (α := α) (F := F) (v := v) (Ln := Ln) (Φ := Φ) (V1 := V1) F
  unfold mX5_improves mX5_improves_s at h
  unfold rX5_improves rX5_improves_s
  exact ih.1 _ _ _ _ _ R h (fun S1 R1 F1 => k S1 R1 F1)
def mX5_leftSideBy_b0 (F : Nat) (rec : Nat → (Nat → Nat) → Nat → Int32 → Nat → Int64 → Int32 → mV → Option Int64) (Ln : Nat → Nat) (l0A : Nat) (l1I : Int32) (l2A : Nat) (l3J : Int64) (l5I : Int32) (V : mV) : Option Int64 :=
  (if (V.fI l0A 1) ≤ l5I then some (l3J) else (mBN (mX5_times F l0A (l1I) (l5I) V) fun v2 => (mBN (mX9_at F Ln l2A ((l5I + (1 : Int32))) V) fun v7 => (mLt (l3J + ((Int32.toInt64 v2) * (Int32.toInt64 v7))) fun x12 => (mLt (l5I + (1 : Int32)) fun x13 => (rec 0 Ln l0A (l1I) l2A (x12) (x13) V))))))
def mX5_leftSideBy_go (F : Nat) : Nat → Nat → (Nat → Nat) → Nat → Int32 → Nat → Int64 → Int32 → mV → Option Int64
  | 0, _, _, _, _, _, _, _, _ => none
  | k' + 1, lab, Ln, l0A, l1I, l2A, l3J, l5I, V => if lab = 0 then mX5_leftSideBy_b0 F (mX5_leftSideBy_go F k') Ln l0A l1I l2A l3J l5I V else none
def mX5_leftSideBy_s (F : Nat) (rec : Nat → (Nat → Nat) → Nat → Int32 → Nat → Int64 → Int32 → mV → Option Int64) (Ln : Nat → Nat) (l0A : Nat) (l1I : Int32) (l2A : Nat) (V : mV) : Option Int64 :=
  (rec 0 Ln l0A (l1I) l2A ((0 : Int64)) ((0 : Int32)) V)
def mX5_leftSideBy (F : Nat) (Ln : Nat → Nat) (l0A : Nat) (l1I : Int32) (l2A : Nat) (V : mV) : Option Int64 := mX5_leftSideBy_s F (mX5_leftSideBy_go F F) Ln l0A l1I l2A V
set_option maxHeartbeats 4000000 in
set_option maxRecDepth 100000 in
theorem LX5_leftSideBy_go {α : Nat → Nat} {F : Nat} {v : Int64} {Φ : (Int64 → wPS → Prop)} : ∀ k' : Nat, (∀ (l0A : Nat) (l1I : Int32) (l2A : Nat) (l3J : Int64) (l5I : Int32) (S : wPS) (V : mV) (Ln : Nat → Nat) , mRel α S Ln V → mK l0A = 3 → mK l2A = 9 → mX5_leftSideBy_go F k' 0 Ln l0A l1I l2A l3J l5I V = some v → (Φ v S) → rX5_leftSideBy_go F k' 0 (α l0A) l1I (α l2A) l3J l5I S Φ) := by
  intro k'
  induction k' with
  | zero => exact (fun _ _ _ _ _ _ _ _ _ _ _ h _ => by cases h)
  | succ k' ih =>
    intro l0A l1I l2A l3J l5I S V Ln R sl0A sl2A h k
    rw [mX5_leftSideBy_go, if_pos rfl] at h
    rw [rX5_leftSideBy_go, if_pos rfl]
    unfold mX5_leftSideBy_b0 at h
    unfold rX5_leftSideBy_b0
    refine mIf h (by rw [show gEntry_size S (α l0A) = V.fI l0A 1 from (mg_I (i := l0A) R (mO3 sl0A) rfl 1)]) (fun c1 h => ?_) (fun c1 h => ?_)
    · cases h
      exact k
    · obtain ⟨v2, hv2, h⟩ := mBN_some h
      refine LX5_times hv2 R sl0A rfl rfl rfl ?_
      obtain ⟨v7, hv7, h⟩ := mBN_some h
      refine LX9_at hv7 R sl2A rfl rfl ?_
      refine mLet h rfl (fun x12 ex12 h => ?_)
      refine mLet h rfl (fun x13 ex13 h => ?_)
      exact ih _ _ _ _ _ _ _ _ R sl0A sl2A h k
set_option maxHeartbeats 4000000 in
set_option maxRecDepth 100000 in
theorem LX5_leftSideBy {α : Nat → Nat} {F : Nat} {S : wPS} {Ln : Nat → Nat} {V : mV} {v : Int64} {Φ : (Int64 → wPS → Prop)} {l0Ax : Nat} {l0A : Nat} {l1Ix l1I : Int32} {l2Ax : Nat} {l2A : Nat} (h : mX5_leftSideBy F Ln l0A l1I l2A V = some v) (R : mRel α S Ln V) (sl0A : mK l0A = 3) (sl2A : mK l2A = 9) (el0A : l0Ax = α l0A) (el1I : l1Ix = l1I) (el2A : l2Ax = α l2A) (k : (Φ v S)) : rX5_leftSideBy F l0Ax l1Ix l2Ax S Φ := by
  have el0A := el0A.symm
  subst el0A
  have el1I := el1I.symm
  subst el1I
  have el2A := el2A.symm
  subst el2A
  have ih := LX5_leftSideBy_go  (α := α) (F := F) (v := v) (Φ := Φ) F
  unfold mX5_leftSideBy mX5_leftSideBy_s at h
  unfold rX5_leftSideBy rX5_leftSideBy_s
  exact ih _ _ _ _ _ _ _ _ R sl0A sl2A h k
def mX5_rightSideBy (F : Nat) (Ln : Nat → Nat) (l0A : Nat) (l1I : Int32) (l2A : Nat) (V : mV) : Option Int64 :=
  (mBN (mX5_limitOf F l0A (l1I) V) fun v1 => (mBN (mX9_at F Ln l2A ((0 : Int32)) V) fun v6 => some (((Int32.toInt64 v1) * (Int32.toInt64 v6)))))
set_option maxHeartbeats 4000000 in
set_option maxRecDepth 100000 in
theorem LX5_rightSideBy {α : Nat → Nat} {F : Nat} {S : wPS} {Ln : Nat → Nat} {V : mV} {v : Int64} {Φ : (Int64 → wPS → Prop)} {l0Ax : Nat} {l0A : Nat} {l1Ix l1I : Int32} {l2Ax : Nat} {l2A : Nat} (h : mX5_rightSideBy F Ln l0A l1I l2A V = some v) (R : mRel α S Ln V) (sl0A : mK l0A = 3) (sl2A : mK l2A = 9) (el0A : l0Ax = α l0A) (el1I : l1Ix = l1I) (el2A : l2Ax = α l2A) (k : (Φ v S)) : rX5_rightSideBy F l0Ax l1Ix l2Ax S Φ := by
  have el0A := el0A.symm
  subst el0A
  have el1I := el1I.symm
  subst el1I
  have el2A := el2A.symm
  subst el2A
  unfold mX5_rightSideBy at h
  unfold rX5_rightSideBy
  obtain ⟨v1, hv1, h⟩ := mBN_some h
  refine LX5_limitOf hv1 R sl0A rfl rfl ?_
  obtain ⟨v6, hv6, h⟩ := mBN_some h
  refine LX9_at hv6 R sl2A rfl rfl ?_
  cases h
  exact k
def mX5_judgeUnknowns_b0 (F : Nat) (rec : Nat → (Nat → Nat) → Nat → Nat → Int32 → mV → Option Int32) (Ln : Nat → Nat) (l1A : Nat) (l2A : Nat) (l3I : Int32) (V : mV) : Option Int32 :=
  (if (V.fI l1A 6) < l3I then some ((0 : Int32)) else (mBN (mX5_leftSideBy F Ln l1A (l3I) l2A V) fun v2 => (mBN (mX5_rightSideBy F Ln l1A (l3I) l2A V) fun v7 => (if (lg_cmp v2 v7) ≤ 0 then (mLt (l3I + (1 : Int32)) fun x13 => (rec 0 Ln l1A l2A (x13) V)) else (if (V.fI l1A 6) ≤ l3I then some ((4 : Int32)) else some ((3 : Int32)))))))
def mX5_judgeUnknowns_go (F : Nat) : Nat → Nat → (Nat → Nat) → Nat → Nat → Int32 → mV → Option Int32
  | 0, _, _, _, _, _, _ => none
  | k' + 1, lab, Ln, l1A, l2A, l3I, V => if lab = 0 then mX5_judgeUnknowns_b0 F (mX5_judgeUnknowns_go F k') Ln l1A l2A l3I V else none
def mX5_judgeUnknowns_s (F : Nat) (rec : Nat → (Nat → Nat) → Nat → Nat → Int32 → mV → Option Int32) (Ln : Nat → Nat) (l1A : Nat) (l2A : Nat) (V : mV) : Option Int32 :=
  (if (V.fI l2A 1) = ((V.fI l1A 1) + (1 : Int32)) then (mBN (mX9_at F Ln l2A ((0 : Int32)) V) fun v16 => (if (1 : Int32) ≤ v16 then (mBN (mX9_liesWithin F Ln l2A ((1 : Int32)) ((0 : Int32)) ((2147483647 : Int32)) V) fun v22 => (if v22 = 0 then some ((2 : Int32)) else (rec 0 Ln l1A l2A ((0 : Int32)) V))) else some ((1 : Int32)))) else some ((1 : Int32)))
def mX5_judgeUnknowns (F : Nat) (Ln : Nat → Nat) (l1A : Nat) (l2A : Nat) (V : mV) : Option Int32 := mX5_judgeUnknowns_s F (mX5_judgeUnknowns_go F F) Ln l1A l2A V
set_option maxHeartbeats 4000000 in
set_option maxRecDepth 100000 in
theorem LX5_judgeUnknowns_go {α : Nat → Nat} {F : Nat} {v : Int32} {Φ : (Int32 → wPS → Prop)} : ∀ k' : Nat, (∀ (l1A : Nat) (l2A : Nat) (l3I : Int32) (S : wPS) (V : mV) (Ln : Nat → Nat) , mRel α S Ln V → mK l1A = 3 → mK l2A = 9 → mX5_judgeUnknowns_go F k' 0 Ln l1A l2A l3I V = some v → (Φ v S) → rX5_judgeUnknowns_go F k' 0 (α l1A) (α l2A) l3I S Φ) := by
  intro k'
  induction k' with
  | zero => exact (fun _ _ _ _ _ _ _ _ _ h _ => by cases h)
  | succ k' ih =>
    intro l1A l2A l3I S V Ln R sl1A sl2A h k
    rw [mX5_judgeUnknowns_go, if_pos rfl] at h
    rw [rX5_judgeUnknowns_go, if_pos rfl]
    unfold mX5_judgeUnknowns_b0 at h
    unfold rX5_judgeUnknowns_b0
    refine mIf h (by rw [show gEntry_itemCount S (α l1A) = V.fI l1A 6 from (mg_I (i := l1A) R (mO3 sl1A) rfl 6)]) (fun c1 h => ?_) (fun c1 h => ?_)
    · cases h
      exact k
    · obtain ⟨v2, hv2, h⟩ := mBN_some h
      refine LX5_leftSideBy hv2 R sl1A sl2A rfl rfl rfl ?_
      obtain ⟨v7, hv7, h⟩ := mBN_some h
      refine LX5_rightSideBy hv7 R sl1A sl2A rfl rfl rfl ?_
      refine mIf h Iff.rfl (fun c2 h => ?_) (fun c2 h => ?_)
      · refine mLet h rfl (fun x13 ex13 h => ?_)
        exact ih _ _ _ _ _ _ R sl1A sl2A h k
      · refine mIf h (by rw [show gEntry_itemCount S (α l1A) = V.fI l1A 6 from (mg_I (i := l1A) R (mO3 sl1A) rfl 6)]) (fun c3 h => ?_) (fun c3 h => ?_)
        · cases h
          exact k
        · cases h
          exact k
set_option maxHeartbeats 4000000 in
set_option maxRecDepth 100000 in
theorem LX5_judgeUnknowns {α : Nat → Nat} {F : Nat} {S : wPS} {Ln : Nat → Nat} {V : mV} {v : Int32} {Φ : (Int32 → wPS → Prop)} {l0Ax : Nat} {l1Ax : Nat} {l1A : Nat} {l2Ax : Nat} {l2A : Nat} (h : mX5_judgeUnknowns F Ln l1A l2A V = some v) (R : mRel α S Ln V) (sl1A : mK l1A = 3) (sl2A : mK l2A = 9) (el0A : l0Ax = α 4) (el1A : l1Ax = α l1A) (el2A : l2Ax = α l2A) (k : (Φ v S)) : rX5_judgeUnknowns F l0Ax l1Ax l2Ax S Φ := by
  have el0A := el0A.symm
  subst el0A
  have el1A := el1A.symm
  subst el1A
  have el2A := el2A.symm
  subst el2A
  have ih := LX5_judgeUnknowns_go  (α := α) (F := F) (v := v) (Φ := Φ) F
  unfold mX5_judgeUnknowns mX5_judgeUnknowns_s at h
  unfold rX5_judgeUnknowns rX5_judgeUnknowns_s
  refine mIf h (by rw [show gEntry_size S (α l1A) = V.fI l1A 1 from (mg_I (i := l1A) R (mO3 sl1A) rfl 1), show gRow_count S (α l2A) = V.fI l2A 1 from (mg_I (i := l2A) R (mO9 sl2A) rfl 1)]) (fun c4 h => ?_) (fun c4 h => ?_)
  · obtain ⟨v16, hv16, h⟩ := mBN_some h
    refine LX9_at hv16 R sl2A rfl rfl ?_
    refine mIf h Iff.rfl (fun c5 h => ?_) (fun c5 h => ?_)
    · obtain ⟨v22, hv22, h⟩ := mBN_some h
      refine LX9_liesWithin hv22 R sl2A rfl rfl rfl rfl ?_
      refine mIf h Iff.rfl (fun c6 h => ?_) (fun c6 h => ?_)
      · cases h
        exact k
      · exact ih _ _ _ _ _ _ R sl1A sl2A h k
    · cases h
      exact k
  · cases h
    exact k
end
