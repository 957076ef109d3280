/-! LIFTED BY PROGRAM (lift.py): X4_areWithin, X4_areUnlikeNodes, X4_areWords, X4_isGameItem, X4_isEdgeAgain, X4_addBalance, X4_addSomeEdge, X5_times, X5_limitOf, X5_begin. -/
section
def mX4_areWithin_b0 (F : Nat) (rec : Nat → Nat → Int32 → Int32 → Int32 → mV → Option Int32) (l0A : Nat) (l1I : Int32) (l2I : Int32) (l3I : Int32) (V : mV) : Option Int32 :=
  (if l1I ≤ l3I then some ((1 : Int32)) else (if (Int32.ofNat (mLen l0A)) ≤ l3I then some ((1 : Int32)) else (if l3I < 0 ∨ mLen l0A ≤ (l3I).toNatClampNeg then none else (mBN (mX4_isWithin F ((V.rI l0A (l3I).toNatClampNeg)) ((-l2I)) (l2I)) fun v4 => (if v4 = 0 then some ((0 : Int32)) else (mLt (l3I + (1 : Int32)) fun x10 => (rec 0 l0A (l1I) (l2I) (x10) V)))))))
def mX4_areWithin_go (F : Nat) : Nat → Nat → Nat → Int32 → Int32 → Int32 → mV → Option Int32
  | 0, _, _, _, _, _, _ => none
  | k' + 1, lab, l0A, l1I, l2I, l3I, V => if lab = 0 then mX4_areWithin_b0 F (mX4_areWithin_go F k') l0A l1I l2I l3I V else none
def mX4_areWithin_s (F : Nat) (rec : Nat → Nat → Int32 → Int32 → Int32 → mV → Option Int32) (l0A : Nat) (l1I : Int32) (l2I : Int32) (V : mV) : Option Int32 :=
  (rec 0 l0A (l1I) (l2I) ((0 : Int32)) V)
def mX4_areWithin (F : Nat) (l0A : Nat) (l1I : Int32) (l2I : Int32) (V : mV) : Option Int32 := mX4_areWithin_s F (mX4_areWithin_go F F) l0A l1I l2I V
set_option maxHeartbeats 4000000 in
set_option maxRecDepth 100000 in
theorem LX4_areWithin_go {α : Nat → Nat} {F : Nat} {Ln : Nat → Nat} {v : Int32} {Φ : (Int32 → wPS → Prop)} : ∀ k' : Nat, (∀ (l0A : Nat) (l1I : Int32) (l2I : Int32) (l3I : Int32) (S : wPS) (V : mV) , mRel α S Ln V → mK l0A = 13 → mX4_areWithin_go F k' 0 l0A l1I l2I l3I V = some v → (Φ v S) → rX4_areWithin_go F k' 0 (α l0A) l1I l2I l3I S Φ) := by
  intro k'
  induction k' with
  | zero => exact (fun _ _ _ _ _ _ _ _ h _ => by cases h)
  | succ k' ih =>
    intro l0A l1I l2I l3I S V R sl0A h k
    rw [mX4_areWithin_go, if_pos rfl] at h
    rw [rX4_areWithin_go, if_pos rfl]
    unfold mX4_areWithin_b0 at h
    unfold rX4_areWithin_b0
    refine mIf h Iff.rfl (fun c1 h => ?_) (fun c1 h => ?_)
    · cases h
      exact k
    · refine mIf h (by rw [show S.len (α l0A) = mLen l0A from (mg_len R (mA13 sl0A) rfl)]) (fun c2 h => ?_) (fun c2 h => ?_)
      · cases h
        exact k
      · refine mGd h (by rw [show S.len (α l0A) = mLen l0A from (mg_len R (mA13 sl0A) rfl)]) (fun c3 h => ?_)
        obtain ⟨v4, hv4, h⟩ := mBN_some h
        refine LX4_isWithin hv4 (by rw [show S.rI (α l0A) (l3I).toNatClampNeg = V.rI l0A (l3I).toNatClampNeg from (mg_rI (i := l0A) R (mA13 sl0A) rfl rfl)]) rfl rfl ?_
        refine mIf h Iff.rfl (fun c4 h => ?_) (fun c4 h => ?_)
        · cases h
          exact k
        · refine mLet h rfl (fun x10 ex10 h => ?_)
          exact ih _ _ _ _ _ _ R sl0A h k
set_option maxHeartbeats 4000000 in
set_option maxRecDepth 100000 in
theorem LX4_areWithin {α : Nat → Nat} {F : Nat} {S : wPS} {Ln : Nat → Nat} {V : mV} {v : Int32} {Φ : (Int32 → wPS → Prop)} {l0Ax : Nat} {l0A : Nat} {l1Ix l1I : Int32} {l2Ix l2I : Int32} (h : mX4_areWithin F l0A l1I l2I V = some v) (R : mRel α S Ln V) (sl0A : mK l0A = 13) (el0A : l0Ax = α l0A) (el1I : l1Ix = l1I) (el2I : l2Ix = l2I) (k : (Φ v S)) : rX4_areWithin F l0Ax l1Ix l2Ix S Φ := by
  have el0A := el0A.symm
  subst el0A
  have el1I := el1I.symm
  subst el1I
  have el2I := el2I.symm
  subst el2I
  have ih := LX4_areWithin_go  (α := α) (F := F) (v := v) (Ln := Ln) (Φ := Φ) F
  unfold mX4_areWithin mX4_areWithin_s at h
  unfold rX4_areWithin rX4_areWithin_s
  exact ih _ _ _ _ _ _ R sl0A h k
def mX4_areUnlikeNodes (F : Nat) (l0A : Nat) (l1I : Int32) (V : mV) : Option Int32 :=
  (if (0 : Int32) < 0 ∨ mLen l0A ≤ ((0 : Int32)).toNatClampNeg then none else (mBN (mX4_isWithin F ((V.rI l0A ((0 : Int32)).toNatClampNeg)) ((0 : Int32)) (l1I)) fun v2 => (if v2 = 0 then some ((0 : Int32)) else (if (1 : Int32) < 0 ∨ mLen l0A ≤ ((1 : Int32)).toNatClampNeg then none else (mBN (mX4_isWithin F ((V.rI l0A ((1 : Int32)).toNatClampNeg)) ((0 : Int32)) (l1I)) fun v9 => (if v9 = 0 then some ((0 : Int32)) else (if (0 : Int32) < 0 ∨ mLen l0A ≤ ((0 : Int32)).toNatClampNeg then none else (if (1 : Int32) < 0 ∨ mLen l0A ≤ ((1 : Int32)).toNatClampNeg then none else (if (V.rI l0A ((0 : Int32)).toNatClampNeg) = (V.rI l0A ((1 : Int32)).toNatClampNeg) then some ((0 : Int32)) else some ((1 : Int32)))))))))))
set_option maxHeartbeats 4000000 in
set_option maxRecDepth 100000 in
theorem LX4_areUnlikeNodes {α : Nat → Nat} {F : Nat} {S : wPS} {Ln : Nat → Nat} {V : mV} {v : Int32} {Φ : (Int32 → wPS → Prop)} {l0Ax : Nat} {l0A : Nat} {l1Ix l1I : Int32} (h : mX4_areUnlikeNodes F l0A l1I V = some v) (R : mRel α S Ln V) (sl0A : mK l0A = 13) (el0A : l0Ax = α l0A) (el1I : l1Ix = l1I) (k : (Φ v S)) : rX4_areUnlikeNodes F l0Ax l1Ix S Φ := by
  have el0A := el0A.symm
  subst el0A
  have el1I := el1I.symm
  subst el1I
  unfold mX4_areUnlikeNodes at h
  unfold rX4_areUnlikeNodes
  refine mGd h (by rw [show S.len (α l0A) = mLen l0A from (mg_len R (mA13 sl0A) rfl)]) (fun c1 h => ?_)
  obtain ⟨v2, hv2, h⟩ := mBN_some h
  refine LX4_isWithin hv2 (by rw [show S.rI (α l0A) ((0 : Int32)).toNatClampNeg = V.rI l0A ((0 : Int32)).toNatClampNeg from (mg_rI (i := l0A) R (mA13 sl0A) rfl rfl)]) rfl rfl ?_
  refine mIf h Iff.rfl (fun c2 h => ?_) (fun c2 h => ?_)
  · cases h
    exact k
  · refine mGd h (by rw [show S.len (α l0A) = mLen l0A from (mg_len R (mA13 sl0A) rfl)]) (fun c3 h => ?_)
    obtain ⟨v9, hv9, h⟩ := mBN_some h
    refine LX4_isWithin hv9 (by rw [show S.rI (α l0A) ((1 : Int32)).toNatClampNeg = V.rI l0A ((1 : Int32)).toNatClampNeg from (mg_rI (i := l0A) R (mA13 sl0A) rfl rfl)]) rfl rfl ?_
    refine mIf h Iff.rfl (fun c4 h => ?_) (fun c4 h => ?_)
    · cases h
      exact k
    · refine mGd h (by rw [show S.len (α l0A) = mLen l0A from (mg_len R (mA13 sl0A) rfl)]) (fun c5 h => ?_)
      refine mGd h (by rw [show S.len (α l0A) = mLen l0A from (mg_len R (mA13 sl0A) rfl)]) (fun c6 h => ?_)
      refine mIf h (by rw [show S.rI (α l0A) ((0 : Int32)).toNatClampNeg = V.rI l0A ((0 : Int32)).toNatClampNeg from (mg_rI (i := l0A) R (mA13 sl0A) rfl rfl), show S.rI (α l0A) ((1 : Int32)).toNatClampNeg = V.rI l0A ((1 : Int32)).toNatClampNeg from (mg_rI (i := l0A) R (mA13 sl0A) rfl rfl)]) (fun c7 h => ?_) (fun c7 h => ?_)
      · cases h
        exact k
      · cases h
        exact k
def mX4_areWords (F : Nat) (l0A : Nat) (l1I : Int32) (V : mV) : Option Int32 :=
  (if (0 : Int32) < 0 ∨ mLen l0A ≤ ((0 : Int32)).toNatClampNeg then none else (mBN (mX4_isWithin F ((V.rI l0A ((0 : Int32)).toNatClampNeg)) ((1 : Int32)) (l1I)) fun v2 => (if v2 = 0 then some ((0 : Int32)) else (if (1 : Int32) < 0 ∨ mLen l0A ≤ ((1 : Int32)).toNatClampNeg then none else (mBN (mX4_isWithin F ((V.rI l0A ((1 : Int32)).toNatClampNeg)) ((1 : Int32)) (l1I)) fun v9 => (if v9 = 0 then some ((0 : Int32)) else some ((1 : Int32))))))))
set_option maxHeartbeats 4000000 in
set_option maxRecDepth 100000 in
theorem LX4_areWords {α : Nat → Nat} {F : Nat} {S : wPS} {Ln : Nat → Nat} {V : mV} {v : Int32} {Φ : (Int32 → wPS → Prop)} {l0Ax : Nat} {l0A : Nat} {l1Ix l1I : Int32} (h : mX4_areWords F l0A l1I V = some v) (R : mRel α S Ln V) (sl0A : mK l0A = 13) (el0A : l0Ax = α l0A) (el1I : l1Ix = l1I) (k : (Φ v S)) : rX4_areWords F l0Ax l1Ix S Φ := by
  have el0A := el0A.symm
  subst el0A
  have el1I := el1I.symm
  subst el1I
  unfold mX4_areWords at h
  unfold rX4_areWords
  refine mGd h (by rw [show S.len (α l0A) = mLen l0A from (mg_len R (mA13 sl0A) rfl)]) (fun c1 h => ?_)
  obtain ⟨v2, hv2, h⟩ := mBN_some h
  refine LX4_isWithin hv2 (by rw [show S.rI (α l0A) ((0 : Int32)).toNatClampNeg = V.rI l0A ((0 : Int32)).toNatClampNeg from (mg_rI (i := l0A) R (mA13 sl0A) rfl rfl)]) rfl rfl ?_
  refine mIf h Iff.rfl (fun c2 h => ?_) (fun c2 h => ?_)
  · cases h
    exact k
  · refine mGd h (by rw [show S.len (α l0A) = mLen l0A from (mg_len R (mA13 sl0A) rfl)]) (fun c3 h => ?_)
    obtain ⟨v9, hv9, h⟩ := mBN_some h
    refine LX4_isWithin hv9 (by rw [show S.rI (α l0A) ((1 : Int32)).toNatClampNeg = V.rI l0A ((1 : Int32)).toNatClampNeg from (mg_rI (i := l0A) R (mA13 sl0A) rfl rfl)]) rfl rfl ?_
    refine mIf h Iff.rfl (fun c4 h => ?_) (fun c4 h => ?_)
    · cases h
      exact k
    · cases h
      exact k
def mX4_isGameItem (F : Nat) (l0A : Nat) (l1I : Int32) (V : mV) : Option Int32 :=
  (if (0 : Int32) < 0 ∨ mLen l0A ≤ ((0 : Int32)).toNatClampNeg then none else (mBN (mX4_isWithin F ((V.rI l0A ((0 : Int32)).toNatClampNeg)) ((0 : Int32)) ((1 : Int32))) fun v2 => (if v2 = 0 then some ((0 : Int32)) else (if (1 : Int32) < 0 ∨ mLen l0A ≤ ((1 : Int32)).toNatClampNeg then none else (mBN (mX4_isWithin F ((V.rI l0A ((1 : Int32)).toNatClampNeg)) ((0 : Int32)) ((5 : Int32))) fun v9 => (if v9 = 0 then some ((0 : Int32)) else (if (2 : Int32) < 0 ∨ mLen l0A ≤ ((2 : Int32)).toNatClampNeg then none else (mBN (mX4_isWithin F ((V.rI l0A ((2 : Int32)).toNatClampNeg)) ((0 : Int32)) (l1I)) fun v16 => (if v16 = 0 then some ((0 : Int32)) else (if (3 : Int32) < 0 ∨ mLen l0A ≤ ((3 : Int32)).toNatClampNeg then none else (mBN (mX4_isWithin F ((V.rI l0A ((3 : Int32)).toNatClampNeg)) ((-1 : Int32)) (l1I)) fun v23 => (if v23 = 0 then some ((0 : Int32)) else (if (4 : Int32) < 0 ∨ mLen l0A ≤ ((4 : Int32)).toNatClampNeg then none else (mBN (mX4_isWithin F ((V.rI l0A ((4 : Int32)).toNatClampNeg)) ((-1 : Int32)) (l1I)) fun v30 => (if v30 = 0 then some ((0 : Int32)) else some ((1 : Int32)))))))))))))))))
set_option maxHeartbeats 4000000 in
set_option maxRecDepth 100000 in
theorem LX4_isGameItem {α : Nat → Nat} {F : Nat} {S : wPS} {Ln : Nat → Nat} {V : mV} {v : Int32} {Φ : (Int32 → wPS → Prop)} {l0Ax : Nat} {l0A : Nat} {l1Ix l1I : Int32} (h : mX4_isGameItem F l0A l1I V = some v) (R : mRel α S Ln V) (sl0A : mK l0A = 13) (el0A : l0Ax = α l0A) (el1I : l1Ix = l1I) (k : (Φ v S)) : rX4_isGameItem F l0Ax l1Ix S Φ := by
  have el0A := el0A.symm
  subst el0A
  have el1I := el1I.symm
  subst el1I
  unfold mX4_isGameItem at h
  unfold rX4_isGameItem
  refine mGd h (by rw [show S.len (α l0A) = mLen l0A from (mg_len R (mA13 sl0A) rfl)]) (fun c1 h => ?_)
  obtain ⟨v2, hv2, h⟩ := mBN_some h
  refine LX4_isWithin hv2 (by rw [show S.rI (α l0A) ((0 : Int32)).toNatClampNeg = V.rI l0A ((0 : Int32)).toNatClampNeg from (mg_rI (i := l0A) R (mA13 sl0A) rfl rfl)]) rfl rfl ?_
  refine mIf h Iff.rfl (fun c2 h => ?_) (fun c2 h => ?_)
  · cases h
    exact k
  · refine mGd h (by rw [show S.len (α l0A) = mLen l0A from (mg_len R (mA13 sl0A) rfl)]) (fun c3 h => ?_)
    obtain ⟨v9, hv9, h⟩ := mBN_some h
    refine LX4_isWithin hv9 (by rw [show S.rI (α l0A) ((1 : Int32)).toNatClampNeg = V.rI l0A ((1 : Int32)).toNatClampNeg from (mg_rI (i := l0A) R (mA13 sl0A) rfl rfl)]) rfl rfl ?_
    refine mIf h Iff.rfl (fun c4 h => ?_) (fun c4 h => ?_)
    · cases h
      exact k
    · refine mGd h (by rw [show S.len (α l0A) = mLen l0A from (mg_len R (mA13 sl0A) rfl)]) (fun c5 h => ?_)
      obtain ⟨v16, hv16, h⟩ := mBN_some h
      refine LX4_isWithin hv16 (by rw [show S.rI (α l0A) ((2 : Int32)).toNatClampNeg = V.rI l0A ((2 : Int32)).toNatClampNeg from (mg_rI (i := l0A) R (mA13 sl0A) rfl rfl)]) rfl rfl ?_
      refine mIf h Iff.rfl (fun c6 h => ?_) (fun c6 h => ?_)
      · cases h
        exact k
      · refine mGd h (by rw [show S.len (α l0A) = mLen l0A from (mg_len R (mA13 sl0A) rfl)]) (fun c7 h => ?_)
        obtain ⟨v23, hv23, h⟩ := mBN_some h
        refine LX4_isWithin hv23 (by rw [show S.rI (α l0A) ((3 : Int32)).toNatClampNeg = V.rI l0A ((3 : Int32)).toNatClampNeg from (mg_rI (i := l0A) R (mA13 sl0A) rfl rfl)]) rfl rfl ?_
        refine mIf h Iff.rfl (fun c8 h => ?_) (fun c8 h => ?_)
        · cases h
          exact k
        · refine mGd h (by rw [show S.len (α l0A) = mLen l0A from (mg_len R (mA13 sl0A) rfl)]) (fun c9 h => ?_)
          obtain ⟨v30, hv30, h⟩ := mBN_some h
          refine LX4_isWithin hv30 (by rw [show S.rI (α l0A) ((4 : Int32)).toNatClampNeg = V.rI l0A ((4 : Int32)).toNatClampNeg from (mg_rI (i := l0A) R (mA13 sl0A) rfl rfl)]) rfl rfl ?_
          refine mIf h Iff.rfl (fun c10 h => ?_) (fun c10 h => ?_)
          · cases h
            exact k
          · cases h
            exact k
def mX4_isEdgeAgain_b0 (F : Nat) (rec : Nat → Nat → Int32 → Int32 → Int32 → mV → Option Int32) (l1A : Nat) (l2I : Int32) (l4I : Int32) (l5I : Int32) (V : mV) : Option Int32 :=
  (if (V.fI l1A 6) ≤ l5I then some ((0 : Int32)) else (if l5I = l2I then (mLt (l5I + (1 : Int32)) fun x3 => (rec 0 l1A (l2I) (l4I) (x3) V)) else (mBN (mX3_at F l1A (l5I) ((0 : Int32)) V) fun v4 => (mBN (mX3_at F l1A (l5I) ((1 : Int32)) V) fun v9 => (if (((1 : Int32) <<< (v4 &&& 31)) ||| ((1 : Int32) <<< (v9 &&& 31))) = l4I then some ((1 : Int32)) else (mLt (l5I + (1 : Int32)) fun x15 => (rec 0 l1A (l2I) (l4I) (x15) V)))))))
def mX4_isEdgeAgain_go (F : Nat) : Nat → Nat → Nat → Int32 → Int32 → Int32 → mV → Option Int32
  | 0, _, _, _, _, _, _ => none
  | k' + 1, lab, l1A, l2I, l4I, l5I, V => if lab = 0 then mX4_isEdgeAgain_b0 F (mX4_isEdgeAgain_go F k') l1A l2I l4I l5I V else none
def mX4_isEdgeAgain_s (F : Nat) (rec : Nat → Nat → Int32 → Int32 → Int32 → mV → Option Int32) (l1A : Nat) (l2I : Int32) (l3A : Nat) (V : mV) : Option Int32 :=
  (if (V.fI l1A 0) = 0 then (if (0 : Int32) < 0 ∨ mLen l3A ≤ ((0 : Int32)).toNatClampNeg then none else (if (1 : Int32) < 0 ∨ mLen l3A ≤ ((1 : Int32)).toNatClampNeg then none else (mLt (((1 : Int32) <<< ((V.rI l3A ((0 : Int32)).toNatClampNeg) &&& 31)) ||| ((1 : Int32) <<< ((V.rI l3A ((1 : Int32)).toNatClampNeg) &&& 31))) fun x19 => (rec 0 l1A (l2I) (x19) ((0 : Int32)) V)))) else (if (V.fI l1A 0) = (2 : Int32) then (if (0 : Int32) < 0 ∨ mLen l3A ≤ ((0 : Int32)).toNatClampNeg then none else (if (1 : Int32) < 0 ∨ mLen l3A ≤ ((1 : Int32)).toNatClampNeg then none else (mLt (((1 : Int32) <<< ((V.rI l3A ((0 : Int32)).toNatClampNeg) &&& 31)) ||| ((1 : Int32) <<< ((V.rI l3A ((1 : Int32)).toNatClampNeg) &&& 31))) fun x23 => (rec 0 l1A (l2I) (x23) ((0 : Int32)) V)))) else some ((0 : Int32))))
def mX4_isEdgeAgain (F : Nat) (l1A : Nat) (l2I : Int32) (l3A : Nat) (V : mV) : Option Int32 := mX4_isEdgeAgain_s F (mX4_isEdgeAgain_go F F) l1A l2I l3A V
set_option maxHeartbeats 4000000 in
set_option maxRecDepth 100000 in
theorem LX4_isEdgeAgain_go {α : Nat → Nat} {F : Nat} {Ln : Nat → Nat} {v : Int32} {Φ : (Int32 → wPS → Prop)} : ∀ k' : Nat, (∀ (l1A : Nat) (l2I : Int32) (l4I : Int32) (l5I : Int32) (S : wPS) (V : mV) , mRel α S Ln V → mK l1A = 3 → mX4_isEdgeAgain_go F k' 0 l1A l2I l4I l5I V = some v → (Φ v S) → rX4_isEdgeAgain_go F k' 0 (α l1A) l2I l4I l5I S Φ) := by
  intro k'
  induction k' with
  | zero => exact (fun _ _ _ _ _ _ _ _ h _ => by cases h)
  | succ k' ih =>
    intro l1A l2I l4I l5I S V R sl1A h k
    rw [mX4_isEdgeAgain_go, if_pos rfl] at h
    rw [rX4_isEdgeAgain_go, if_pos rfl]
    unfold mX4_isEdgeAgain_b0 at h
    unfold rX4_isEdgeAgain_b0
    refine mIf h (by rw [show gEntry_itemCount S (α l1A) = V.fI l1A 6 from (mg_I (i := l1A) R (mO3 sl1A) rfl 6)]) (fun c1 h => ?_) (fun c1 h => ?_)
    · cases h
      exact k
    · refine mIf h Iff.rfl (fun c2 h => ?_) (fun c2 h => ?_)
      · refine mLet h rfl (fun x3 ex3 h => ?_)
        exact ih _ _ _ _ _ _ R sl1A h k
      · obtain ⟨v4, hv4, h⟩ := mBN_some h
        refine LX3_at hv4 R sl1A rfl rfl rfl ?_
        obtain ⟨v9, hv9, h⟩ := mBN_some h
        refine LX3_at hv9 R sl1A rfl rfl rfl ?_
        refine mIf h Iff.rfl (fun c3 h => ?_) (fun c3 h => ?_)
        · cases h
          exact k
        · refine mLet h rfl (fun x15 ex15 h => ?_)
          exact ih _ _ _ _ _ _ R sl1A h k
set_option maxHeartbeats 4000000 in
set_option maxRecDepth 100000 in
theorem LX4_isEdgeAgain {α : Nat → Nat} {F : Nat} {S : wPS} {Ln : Nat → Nat} {V : mV} {v : Int32} {Φ : (Int32 → wPS → Prop)} {l0Ax : Nat} {l1Ax : Nat} {l1A : Nat} {l2Ix l2I : Int32} {l3Ax : Nat} {l3A : Nat} (h : mX4_isEdgeAgain F l1A l2I l3A V = some v) (R : mRel α S Ln V) (sl1A : mK l1A = 3) (sl3A : mK l3A = 13) (el0A : l0Ax = α 1) (el1A : l1Ax = α l1A) (el2I : l2Ix = l2I) (el3A : l3Ax = α l3A) (k : (Φ v S)) : rX4_isEdgeAgain F l0Ax l1Ax l2Ix l3Ax S Φ := by
  have el0A := el0A.symm
  subst el0A
  have el1A := el1A.symm
  subst el1A
  have el2I := el2I.symm
  subst el2I
  have el3A := el3A.symm
  subst el3A
  have ih := LX4_isEdgeAgain_go  (α := α) (F := F) (v := v) (Ln := Ln) (Φ := Φ) F
  unfold mX4_isEdgeAgain mX4_isEdgeAgain_s at h
  unfold rX4_isEdgeAgain rX4_isEdgeAgain_s
  refine mIf h (by rw [show gEntry_kind S (α l1A) = V.fI l1A 0 from (mg_I (i := l1A) R (mO3 sl1A) rfl 0)]) (fun c4 h => ?_) (fun c4 h => ?_)
  · refine mGd h (by rw [show S.len (α l3A) = mLen l3A from (mg_len R (mA13 sl3A) rfl)]) (fun c5 h => ?_)
    refine mGd h (by rw [show S.len (α l3A) = mLen l3A from (mg_len R (mA13 sl3A) rfl)]) (fun c6 h => ?_)
    refine mLet h (by rw [show S.rI (α l3A) ((0 : Int32)).toNatClampNeg = V.rI l3A ((0 : Int32)).toNatClampNeg from (mg_rI (i := l3A) R (mA13 sl3A) rfl rfl), show S.rI (α l3A) ((1 : Int32)).toNatClampNeg = V.rI l3A ((1 : Int32)).toNatClampNeg from (mg_rI (i := l3A) R (mA13 sl3A) rfl rfl)]) (fun x19 ex19 h => ?_)
    exact ih _ _ _ _ _ _ R sl1A h k
  · refine mIf h (by rw [show gEntry_kind S (α l1A) = V.fI l1A 0 from (mg_I (i := l1A) R (mO3 sl1A) rfl 0)]) (fun c7 h => ?_) (fun c7 h => ?_)
    · refine mGd h (by rw [show S.len (α l3A) = mLen l3A from (mg_len R (mA13 sl3A) rfl)]) (fun c8 h => ?_)
      refine mGd h (by rw [show S.len (α l3A) = mLen l3A from (mg_len R (mA13 sl3A) rfl)]) (fun c9 h => ?_)
      refine mLet h (by rw [show S.rI (α l3A) ((0 : Int32)).toNatClampNeg = V.rI l3A ((0 : Int32)).toNatClampNeg from (mg_rI (i := l3A) R (mA13 sl3A) rfl rfl), show S.rI (α l3A) ((1 : Int32)).toNatClampNeg = V.rI l3A ((1 : Int32)).toNatClampNeg from (mg_rI (i := l3A) R (mA13 sl3A) rfl rfl)]) (fun x23 ex23 h => ?_)
      exact ih _ _ _ _ _ _ R sl1A h k
    · cases h
      exact k
def mX4_addBalance_b0 (F : Nat) (rec : Nat → Nat → Nat → Int32 → Int32 → Int32 → Int32 → Int32 → mV → Option (Unit × mV)) (l0A : Nat) (l1A : Nat) (l2I : Int32) (l3I : Int32) (l4I : Int32) (l5I : Int32) (l6I : Int32) (V : mV) : Option (Unit × mV) :=
  (if (V.fI l0A 6) ≤ l6I then (mBW (mX3_addTo F l1A (l5I) ((4 : Int32)) (l4I) V) fun v2 V3 => some ((), V3)) else (mBN (mX3_at F l0A (l6I) ((0 : Int32)) V) fun v7 => (if v7 = l2I then (mBW (mX3_addTo F l1A (l5I) (l6I) (l3I) V) fun v26 V27 => (mBN (mX3_at F l0A (l6I) ((1 : Int32)) V27) fun v31 => (if v31 = l2I then (mBW (mX3_addTo F l1A (l5I) (l6I) ((-l3I)) V27) fun v38 V39 => (mLt (l6I + (1 : Int32)) fun x43 => (rec 0 l0A l1A (l2I) (l3I) (l4I) (l5I) (x43) V39))) else (mLt (l6I + (1 : Int32)) fun x37 => (rec 0 l0A l1A (l2I) (l3I) (l4I) (l5I) (x37) V27))))) else (mBN (mX3_at F l0A (l6I) ((1 : Int32)) V) fun v13 => (if v13 = l2I then (mBW (mX3_addTo F l1A (l5I) (l6I) ((-l3I)) V) fun v20 V21 => (mLt (l6I + (1 : Int32)) fun x25 => (rec 0 l0A l1A (l2I) (l3I) (l4I) (l5I) (x25) V21))) else (mLt (l6I + (1 : Int32)) fun x19 => (rec 0 l0A l1A (l2I) (l3I) (l4I) (l5I) (x19) V)))))))
def mX4_addBalance_go (F : Nat) : Nat → Nat → Nat → Nat → Int32 → Int32 → Int32 → Int32 → Int32 → mV → Option (Unit × mV)
  | 0, _, _, _, _, _, _, _, _, _ => none
  | k' + 1, lab, l0A, l1A, l2I, l3I, l4I, l5I, l6I, V => if lab = 0 then mX4_addBalance_b0 F (mX4_addBalance_go F k') l0A l1A l2I l3I l4I l5I l6I V else none
def mX4_addBalance_s (F : Nat) (rec : Nat → Nat → Nat → Int32 → Int32 → Int32 → Int32 → Int32 → mV → Option (Unit × mV)) (l0A : Nat) (l1A : Nat) (l2I : Int32) (l3I : Int32) (l4I : Int32) (V : mV) : Option (Unit × mV) :=
  (mLt (V.fI l1A 6) fun x44 => (mBW (mX3_addItem F l1A ((0 : Int32)) ((0 : Int32)) ((0 : Int32)) V) fun v45 V46 => (rec 0 l0A l1A (l2I) (l3I) (l4I) (x44) ((0 : Int32)) V46)))
def mX4_addBalance (F : Nat) (l0A : Nat) (l1A : Nat) (l2I : Int32) (l3I : Int32) (l4I : Int32) (V : mV) : Option (Unit × mV) := mX4_addBalance_s F (mX4_addBalance_go F F) l0A l1A l2I l3I l4I V
set_option maxHeartbeats 4000000 in
set_option maxRecDepth 100000 in
theorem LX4_addBalance_go {α : Nat → Nat} {F : Nat} {Ln : Nat → Nat} {v : Unit} {V1 : mV} {Φ : (Unit → wPS → Prop)} : ∀ k' : Nat, (∀ (l0A : Nat) (l1A : Nat) (l2I : Int32) (l3I : Int32) (l4I : Int32) (l5I : Int32) (l6I : Int32) (S : wPS) (V : mV) , mRel α S Ln V → mK l0A = 3 → mK l1A = 3 → mX4_addBalance_go F k' 0 l0A l1A l2I l3I l4I l5I l6I V = some (v, V1) → (∀ S1, mRel α S1 Ln V1 → mFr α S S1 → Φ v S1) → rX4_addBalance_go F k' 0 (α l0A) (α l1A) l2I l3I l4I l5I l6I S Φ) := by
  intro k'
  induction k' with
  | zero => exact (fun _ _ _ _ _ _ _ _ _ _ _ _ h _ => by cases h)
  | succ k' ih =>
    intro l0A l1A l2I l3I l4I l5I l6I S V R sl0A sl1A h k
    rw [mX4_addBalance_go, if_pos rfl] at h
    rw [rX4_addBalance_go, if_pos rfl]
    unfold mX4_addBalance_b0 at h
    unfold rX4_addBalance_b0
    refine mIf h (by rw [show gEntry_itemCount S (α l0A) = V.fI l0A 6 from (mg_I (i := l0A) R (mO3 sl0A) rfl 6)]) (fun c1 h => ?_) (fun c1 h => ?_)
    · obtain ⟨v2, V3, hv2, h⟩ := mBW_some h
      refine LX3_addTo hv2 R sl1A rfl rfl rfl rfl (fun S3 R3 F3 => ?_)
      obtain ⟨rfl, rfl⟩ := mRW h
      exact k _ R3 F3
    · obtain ⟨v7, hv7, h⟩ := mBN_some h
      refine LX3_at hv7 R sl0A rfl rfl rfl ?_
      refine mIf h Iff.rfl (fun c2 h => ?_) (fun c2 h => ?_)
      · obtain ⟨v26, V27, hv26, h⟩ := mBW_some h
        refine LX3_addTo hv26 R sl1A rfl rfl rfl rfl (fun S27 R27 F27 => ?_)
        obtain ⟨v31, hv31, h⟩ := mBN_some h
        refine LX3_at hv31 R27 sl0A rfl rfl rfl ?_
        refine mIf h Iff.rfl (fun c3 h => ?_) (fun c3 h => ?_)
        · obtain ⟨v38, V39, hv38, h⟩ := mBW_some h
          refine LX3_addTo hv38 R27 sl1A rfl rfl rfl rfl (fun S39 R39 F39 => ?_)
          refine mLet h rfl (fun x43 ex43 h => ?_)
          exact ih _ _ _ _ _ _ _ _ _ R39 sl0A sl1A h (fun S1 R1 F1 => k S1 R1 (F27.tr (F39.tr F1)))
        · refine mLet h rfl (fun x37 ex37 h => ?_)
          exact ih _ _ _ _ _ _ _ _ _ R27 sl0A sl1A h (fun S1 R1 F1 => k S1 R1 (F27.tr F1))
      · obtain ⟨v13, hv13, h⟩ := mBN_some h
        refine LX3_at hv13 R sl0A rfl rfl rfl ?_
        refine mIf h Iff.rfl (fun c4 h => ?_) (fun c4 h => ?_)
        · obtain ⟨v20, V21, hv20, h⟩ := mBW_some h
          refine LX3_addTo hv20 R sl1A rfl rfl rfl rfl (fun S21 R21 F21 => ?_)
          refine mLet h rfl (fun x25 ex25 h => ?_)
          exact ih _ _ _ _ _ _ _ _ _ R21 sl0A sl1A h (fun S1 R1 F1 => k S1 R1 (F21.tr F1))
        · refine mLet h rfl (fun x19 ex19 h => ?_)
          exact ih _ _ _ _ _ _ _ _ _ R sl0A sl1A h (fun S1 R1 F1 => k S1 R1 F1)
set_option maxHeartbeats 4000000 in
set_option maxRecDepth 100000 in
theorem LX4_addBalance {α : Nat → Nat} {F : Nat} {S : wPS} {Ln : Nat → Nat} {V V1 : mV} {v : Unit} {Φ : (Unit → wPS → Prop)} {l0Ax : Nat} {l0A : Nat} {l1Ax : Nat} {l1A : Nat} {l2Ix l2I : Int32} {l3Ix l3I : Int32} {l4Ix l4I : Int32} (h : mX4_addBalance F l0A l1A l2I l3I l4I V = some (v, V1)) (R : mRel α S Ln V) (sl0A : mK l0A = 3) (sl1A : mK l1A = 3) (el0A : l0Ax = α l0A) (el1A : l1Ax = α l1A) (el2I : l2Ix = l2I) (el3I : l3Ix = l3I) (el4I : l4Ix = l4I) (k : (∀ S1, mRel α S1 Ln V1 → mFr α S S1 → Φ v S1)) : rX4_addBalance F l0Ax l1Ax l2Ix l3Ix l4Ix S Φ := by
  have el0A := el0A.symm
  subst el0A
  have el1A := el1A.symm
  subst el1A
  have el2I := el2I.symm
  subst el2I
  have el3I := el3I.symm
  subst el3I
  have el4I := el4I.symm
  subst el4I
  have ih := LX4_addBalance_go  (α := α) (F := F) (v := v) (Ln := Ln) (Φ := Φ) (V1 := V1) F
  unfold mX4_addBalance mX4_addBalance_s at h
  unfold rX4_addBalance rX4_addBalance_s
  refine mLet h (by rw [show gEntry_itemCount S (α l1A) = V.fI l1A 6 from (mg_I (i := l1A) R (mO3 sl1A) rfl 6)]) (fun x44 ex44 h => ?_)
  obtain ⟨v45, V46, hv45, h⟩ := mBW_some h
  refine LX3_addItem hv45 R sl1A rfl rfl rfl rfl (fun S46 R46 F46 => ?_)
  exact ih _ _ _ _ _ _ _ _ _ R46 sl0A sl1A h (fun S1 R1 F1 => k S1 R1 (F46.tr F1))
def mX4_addSomeEdge_b0 (F : Nat) (rec : Nat → Nat → Nat → Int32 → Int32 → Int32 → Int32 → mV → Option (Int32 × mV)) (l0A : Nat) (l1A : Nat) (l2I : Int32) (l3I : Int32) (l4I : Int32) (l5I : Int32) (V : mV) : Option (Int32 × mV) :=
  (if (V.fI l0A 6) ≤ l5I then (if l4I < (1 : Int32) then some ((0 : Int32), V) else (if (3 : Int32) < l4I then some ((0 : Int32), V) else some ((1 : Int32), V))) else (mBN (mX3_at F l0A (l5I) ((0 : Int32)) V) fun v4 => (if v4 = l2I then (rec 1 l0A l1A (l2I) (l3I) (l4I) (l5I) V) else (mBN (mX3_at F l0A (l5I) ((1 : Int32)) V) fun v10 => (if v10 = l2I then (rec 1 l0A l1A (l2I) (l3I) (l4I) (l5I) V) else (mLt (l5I + (1 : Int32)) fun x16 => (rec 0 l0A l1A (l2I) (l3I) (l4I) (x16) V)))))))
def mX4_addSomeEdge_b1 (F : Nat) (rec : Nat → Nat → Nat → Int32 → Int32 → Int32 → Int32 → mV → Option (Int32 × mV)) (l0A : Nat) (l1A : Nat) (l2I : Int32) (l3I : Int32) (l4I : Int32) (l5I : Int32) (V : mV) : Option (Int32 × mV) :=
  (if l4I = 0 then (mBW (mX3_addItem F l1A ((0 : Int32)) ((0 : Int32)) ((0 : Int32)) V) fun v28 V29 => (if (3 : Int32) ≤ l4I then (mLt (l4I + (1 : Int32)) fun x34 => (mLt (l5I + (1 : Int32)) fun x35 => (rec 0 l0A l1A (l2I) (l3I) (x34) (x35) V29))) else (mBW (mX3_addTo F l1A (l3I) (l4I) ((l5I + (1 : Int32))) V29) fun v36 V37 => (mLt (l4I + (1 : Int32)) fun x41 => (mLt (l5I + (1 : Int32)) fun x42 => (rec 0 l0A l1A (l2I) (l3I) (x41) (x42) V37)))))) else (if (3 : Int32) ≤ l4I then (mLt (l4I + (1 : Int32)) fun x19 => (mLt (l5I + (1 : Int32)) fun x20 => (rec 0 l0A l1A (l2I) (l3I) (x19) (x20) V))) else (mBW (mX3_addTo F l1A (l3I) (l4I) ((l5I + (1 : Int32))) V) fun v21 V22 => (mLt (l4I + (1 : Int32)) fun x26 => (mLt (l5I + (1 : Int32)) fun x27 => (rec 0 l0A l1A (l2I) (l3I) (x26) (x27) V22))))))
def mX4_addSomeEdge_go (F : Nat) : Nat → Nat → Nat → Nat → Int32 → Int32 → Int32 → Int32 → mV → Option (Int32 × mV)
  | 0, _, _, _, _, _, _, _, _ => none
  | k' + 1, lab, l0A, l1A, l2I, l3I, l4I, l5I, V => if lab = 0 then mX4_addSomeEdge_b0 F (mX4_addSomeEdge_go F k') l0A l1A l2I l3I l4I l5I V else if lab = 1 then mX4_addSomeEdge_b1 F (mX4_addSomeEdge_go F k') l0A l1A l2I l3I l4I l5I V else none
def mX4_addSomeEdge_s (F : Nat) (rec : Nat → Nat → Nat → Int32 → Int32 → Int32 → Int32 → mV → Option (Int32 × mV)) (l0A : Nat) (l1A : Nat) (l2I : Int32) (V : mV) : Option (Int32 × mV) :=
  (mLt (V.fI l1A 6) fun x43 => (rec 0 l0A l1A (l2I) (x43) ((0 : Int32)) ((0 : Int32)) V))
def mX4_addSomeEdge (F : Nat) (l0A : Nat) (l1A : Nat) (l2I : Int32) (V : mV) : Option (Int32 × mV) := mX4_addSomeEdge_s F (mX4_addSomeEdge_go F F) l0A l1A l2I V
set_option maxHeartbeats 4000000 in
set_option maxRecDepth 100000 in
theorem LX4_addSomeEdge_go {α : Nat → Nat} {F : Nat} {Ln : Nat → Nat} {v : Int32} {V1 : mV} {Φ : (Int32 → wPS → Prop)} : ∀ k' : Nat, (∀ (l0A : Nat) (l1A : Nat) (l2I : Int32) (l3I : Int32) (l4I : Int32) (l5I : Int32) (S : wPS) (V : mV) , mRel α S Ln V → mK l0A = 3 → mK l1A = 3 → mX4_addSomeEdge_go F k' 0 l0A l1A l2I l3I l4I l5I V = some (v, V1) → (∀ S1, mRel α S1 Ln V1 → mFr α S S1 → Φ v S1) → rX4_addSomeEdge_go F k' 0 (α l0A) (α l1A) l2I l3I l4I l5I S Φ) ∧ (∀ (l0A : Nat) (l1A : Nat) (l2I : Int32) (l3I : Int32) (l4I : Int32) (l5I : Int32) (S : wPS) (V : mV) , mRel α S Ln V → mK l0A = 3 → mK l1A = 3 → mX4_addSomeEdge_go F k' 1 l0A l1A l2I l3I l4I l5I V = some (v, V1) → (∀ S1, mRel α S1 Ln V1 → mFr α S S1 → Φ v S1) → rX4_addSomeEdge_go F k' 1 (α l0A) (α l1A) l2I l3I l4I l5I S Φ) := by
  intro k'
  induction k' with
  | zero => exact ⟨(fun _ _ _ _ _ _ _ _ _ _ _ h _ => by cases h), (fun _ _ _ _ _ _ _ _ _ _ _ h _ => by cases h)⟩
  | succ k' ih =>
    refine ⟨?_, ?_⟩
    · intro l0A l1A l2I l3I l4I l5I S V R sl0A sl1A h k
      rw [mX4_addSomeEdge_go, if_pos rfl] at h
      rw [rX4_addSomeEdge_go, if_pos rfl]
      unfold mX4_addSomeEdge_b0 at h
      unfold rX4_addSomeEdge_b0
      refine mIf h (by rw [show gEntry_itemCount S (α l0A) = V.fI l0A 6 from (mg_I (i := l0A) R (mO3 sl0A) rfl 6)]) (fun c1 h => ?_) (fun c1 h => ?_)
      · refine mIf h Iff.rfl (fun c2 h => ?_) (fun c2 h => ?_)
        · obtain ⟨rfl, rfl⟩ := mRW h
          exact k _ R mFr.rf
        · refine mIf h Iff.rfl (fun c3 h => ?_) (fun c3 h => ?_)
          · obtain ⟨rfl, rfl⟩ := mRW h
            exact k _ R mFr.rf
          · obtain ⟨rfl, rfl⟩ := mRW h
            exact k _ R mFr.rf
      · obtain ⟨v4, hv4, h⟩ := mBN_some h
        refine LX3_at hv4 R sl0A rfl rfl rfl ?_
        refine mIf h Iff.rfl (fun c4 h => ?_) (fun c4 h => ?_)
        · exact ih.2 _ _ _ _ _ _ _ _ R sl0A sl1A h (fun S1 R1 F1 => k S1 R1 F1)
        · obtain ⟨v10, hv10, h⟩ := mBN_some h
          refine LX3_at hv10 R sl0A rfl rfl rfl ?_
          refine mIf h Iff.rfl (fun c5 h => ?_) (fun c5 h => ?_)
          · exact ih.2 _ _ _ _ _ _ _ _ R sl0A sl1A h (fun S1 R1 F1 => k S1 R1 F1)
          · refine mLet h rfl (fun x16 ex16 h => ?_)
            exact ih.1 _ _ _ _ _ _ _ _ R sl0A sl1A h (fun S1 R1 F1 => k S1 R1 F1)
    · intro l0A l1A l2I l3I l4I l5I S V R sl0A sl1A h k
      rw [mX4_addSomeEdge_go, if_neg (by decide), if_pos rfl] at h
      rw [rX4_addSomeEdge_go, if_neg (by decide), if_pos rfl]
      unfold mX4_addSomeEdge_b1 at h
      unfold rX4_addSomeEdge_b1
      refine mIf h Iff.rfl (fun c6 h => ?_) (fun c6 h => ?_)
      · obtain ⟨v28, V29, hv28, h⟩ := mBW_some h
        refine LX3_addItem hv28 R sl1A rfl rfl rfl rfl (fun S29 R29 F29 => ?_)
        refine mIf h Iff.rfl (fun c7 h => ?_) (fun c7 h => ?_)
        · refine mLet h rfl (fun x34 ex34 h => ?_)
          refine mLet h rfl (fun x35 ex35 h => ?_)
          exact ih.1 _ _ _ _ _ _ _ _ R29 sl0A sl1A h (fun S1 R1 F1 => k S1 R1 (F29.tr F1))
        · obtain ⟨v36, V37, hv36, h⟩ := mBW_some h
          refine LX3_addTo hv36 R29 sl1A rfl rfl rfl rfl (fun S37 R37 F37 => ?_)
          refine mLet h rfl (fun x41 ex41 h => ?_)
          refine mLet h rfl (fun x42 ex42 h => ?_)
          exact ih.1 _ _ _ _ _ _ _ _ R37 sl0A sl1A h (fun S1 R1 F1 => k S1 R1 (F29.tr (F37.tr F1)))
      · refine mIf h Iff.rfl (fun c8 h => ?_) (fun c8 h => ?_)
        · refine mLet h rfl (fun x19 ex19 h => ?_)
          refine mLet h rfl (fun x20 ex20 h => ?_)
          exact ih.1 _ _ _ _ _ _ _ _ R sl0A sl1A h (fun S1 R1 F1 => k S1 R1 F1)
        · obtain ⟨v21, V22, hv21, h⟩ := mBW_some h
          refine LX3_addTo hv21 R sl1A rfl rfl rfl rfl (fun S22 R22 F22 => ?_)
          refine mLet h rfl (fun x26 ex26 h => ?_)
          refine mLet h rfl (fun x27 ex27 h => ?_)
          exact ih.1 _ _ _ _ _ _ _ _ R22 sl0A sl1A h (fun S1 R1 F1 => k S1 R1 (F22.tr F1))
set_option maxHeartbeats 4000000 in
set_option maxRecDepth 100000 in
theorem LX4_addSomeEdge {α : Nat → Nat} {F : Nat} {S : wPS} {Ln : Nat → Nat} {V V1 : mV} {v : Int32} {Φ : (Int32 → wPS → Prop)} {l0Ax : Nat} {l0A : Nat} {l1Ax : Nat} {l1A : Nat} {l2Ix l2I : Int32} (h : mX4_addSomeEdge F l0A l1A l2I V = some (v, V1)) (R : mRel α S Ln V) (sl0A : mK l0A = 3) (sl1A : mK l1A = 3) (el0A : l0Ax = α l0A) (el1A : l1Ax = α l1A) (el2I : l2Ix = l2I) (k : (∀ S1, mRel α S1 Ln V1 → mFr α S S1 → Φ v S1)) : rX4_addSomeEdge F l0Ax l1Ax l2Ix S Φ := by
  have el0A := el0A.symm
  subst el0A
  have el1A := el1A.symm
  subst el1A
  have el2I := el2I.symm
  subst el2I
  have ih := LX4_addSomeEdge_go  (α := α) (F := F) (v := v) (Ln := Ln) (Φ := Φ) (V1 := V1) F
  unfold mX4_addSomeEdge mX4_addSomeEdge_s at h
  unfold rX4_addSomeEdge rX4_addSomeEdge_s
  refine mLet h (by rw [show gEntry_itemCount S (α l1A) = V.fI l1A 6 from (mg_I (i := l1A) R (mO3 sl1A) rfl 6)]) (fun x43 ex43 h => ?_)
  exact ih.1 _ _ _ _ _ _ _ _ R sl0A sl1A h (fun S1 R1 F1 => k S1 R1 F1)
def mX5_times (F : Nat) (l0A : Nat) (l1I : Int32) (l2I : Int32) (V : mV) : Option Int32 :=
  (if (V.fI l0A 6) ≤ l1I then some ((1 : Int32)) else (mBN (mX3_at F l0A (l1I) (l2I) V) fun v2 => some (v2)))
set_option maxHeartbeats 4000000 in
set_option maxRecDepth 100000 in
theorem LX5_times {α : Nat → Nat} {F : Nat} {S : wPS} {Ln : Nat → Nat} {V : mV} {v : Int32} {Φ : (Int32 → wPS → Prop)} {l0Ax : Nat} {l0A : Nat} {l1Ix l1I : Int32} {l2Ix l2I : Int32} (h : mX5_times F l0A l1I l2I V = some v) (R : mRel α S Ln V) (sl0A : mK l0A = 3) (el0A : l0Ax = α l0A) (el1I : l1Ix = l1I) (el2I : l2Ix = l2I) (k : (Φ v S)) : rX5_times F l0Ax l1Ix l2Ix S Φ := by
  have el0A := el0A.symm
  subst el0A
  have el1I := el1I.symm
  subst el1I
  have el2I := el2I.symm
  subst el2I
  unfold mX5_times at h
  unfold rX5_times
  refine mIf h (by rw [show gEntry_itemCount S (α l0A) = V.fI l0A 6 from (mg_I (i := l0A) R (mO3 sl0A) rfl 6)]) (fun c1 h => ?_) (fun c1 h => ?_)
  · cases h
    exact k
  · obtain ⟨v2, hv2, h⟩ := mBN_some h
    refine LX3_at hv2 R sl0A rfl rfl rfl ?_
    cases h
    exact k
def mX5_limitOf (F : Nat) (l0A : Nat) (l1I : Int32) (V : mV) : Option Int32 :=
  (if (V.fI l0A 6) ≤ l1I then some ((V.fI l0A 8)) else (mBN (mX3_at F l0A (l1I) ((4 : Int32)) V) fun v2 => some (v2)))
set_option maxHeartbeats 4000000 in
set_option maxRecDepth 100000 in
theorem LX5_limitOf {α : Nat → Nat} {F : Nat} {S : wPS} {Ln : Nat → Nat} {V : mV} {v : Int32} {Φ : (Int32 → wPS → Prop)} {l0Ax : Nat} {l0A : Nat} {l1Ix l1I : Int32} (h : mX5_limitOf F l0A l1I V = some v) (R : mRel α S Ln V) (sl0A : mK l0A = 3) (el0A : l0Ax = α l0A) (el1I : l1Ix = l1I) (k : (Φ v S)) : rX5_limitOf F l0Ax l1Ix S Φ := by
  have el0A := el0A.symm
  subst el0A
  have el1I := el1I.symm
  subst el1I
  unfold mX5_limitOf at h
  unfold rX5_limitOf
  refine mIf h (by rw [show gEntry_itemCount S (α l0A) = V.fI l0A 6 from (mg_I (i := l0A) R (mO3 sl0A) rfl 6)]) (fun c1 h => ?_) (fun c1 h => ?_)
  · cases h
    rw [show gEntry_boundNow S (α l0A) = V.fI l0A 8 from (mg_I (i := l0A) R (mO3 sl0A) rfl 8)]
    exact k
  · obtain ⟨v2, hv2, h⟩ := mBN_some h
    refine LX3_at hv2 R sl0A rfl rfl rfl ?_
    cases h
    exact k
def mX5_begin_b0 (F : Nat) (rec : Nat → Int32 → Int32 → mV → Option (Unit × mV)) (l1I : Int32) (V : mV) : Option (Unit × mV) :=
  (if (V.fI 4 5) ≤ l1I then (rec 1 ((0 : Int32)) 0 V) else (if l1I < 0 ∨ 18 ≤ (l1I).toNatClampNeg then none else (mLt (mI V 51 (l1I) (l1I)) fun V3 => (mLt (l1I + (1 : Int32)) fun x4 => (rec 0 (x4) 0 V3)))))
def mX5_begin_b1 (F : Nat) (rec : Nat → Int32 → Int32 → mV → Option (Unit × mV)) (l1I : Int32) (V : mV) : Option (Unit × mV) :=
  (if (V.fI 4 4) ≤ l1I then some ((), V) else (if l1I < 0 ∨ 14 ≤ (l1I).toNatClampNeg then none else (mLt (mI V 50 (l1I) (((V.fI 4 5) + l1I))) fun V7 => (rec 2 (l1I) ((0 : Int32)) V7))))
def mX5_begin_b2 (F : Nat) (rec : Nat → Int32 → Int32 → mV → Option (Unit × mV)) (l1I : Int32) (l2I : Int32) (V : mV) : Option (Unit × mV) :=
  (if (V.fI 4 5) < l2I then (mLt (l1I + (1 : Int32)) fun x9 => (rec 1 (x9) 0 V)) else (if (V.fI 4 4) < 0 ∨ 14 ≤ ((V.fI 4 4)).toNatClampNeg then none else (if l2I < 0 ∨ 18 ≤ (l2I).toNatClampNeg then none else (if l1I < 0 ∨ 14 ≤ (l1I).toNatClampNeg then none else (if l2I < 0 ∨ 18 ≤ (l2I).toNatClampNeg then none else (if l2I < 0 ∨ 18 ≤ (l2I).toNatClampNeg then none else (mLt (mJ V (36 + ((V.fI 4 4)).toNatClampNeg) (l2I) (((V.rJ (36 + ((V.fI 4 4)).toNatClampNeg) (l2I).toNatClampNeg) + (V.rJ (36 + (l1I).toNatClampNeg) (l2I).toNatClampNeg)))) fun V17 => (mLt (l2I + (1 : Int32)) fun x18 => (rec 2 (l1I) (x18) V17)))))))))
def mX5_begin_go (F : Nat) : Nat → Nat → Int32 → Int32 → mV → Option (Unit × mV)
  | 0, _, _, _, _ => none
  | k' + 1, lab, l1I, l2I, V => if lab = 0 then mX5_begin_b0 F (mX5_begin_go F k') l1I V else if lab = 1 then mX5_begin_b1 F (mX5_begin_go F k') l1I V else if lab = 2 then mX5_begin_b2 F (mX5_begin_go F k') l1I l2I V else none
def mX5_begin_s (F : Nat) (rec : Nat → Int32 → Int32 → mV → Option (Unit × mV)) (V : mV) : Option (Unit × mV) :=
  (mLt (mG V 4 6 ((1 : Int64))) fun V19 => (mLt (mF V19 4 3 ((0 : Int32))) fun V20 => (rec 0 ((0 : Int32)) 0 V20)))
def mX5_begin (F : Nat) (V : mV) : Option (Unit × mV) := mX5_begin_s F (mX5_begin_go F F) V
set_option maxHeartbeats 4000000 in
set_option maxRecDepth 100000 in
theorem LX5_begin_go {α : Nat → Nat} {F : Nat} {Ln : Nat → Nat} {v : Unit} {V1 : mV} {Φ : (Unit → wPS → Prop)} : ∀ k' : Nat, (∀ (l1I : Int32) (S : wPS) (V : mV) , mRel α S Ln V → mX5_begin_go F k' 0 l1I 0 V = some (v, V1) → (∀ S1, mRel α S1 Ln V1 → mFr α S S1 → Φ v S1) → rX5_begin_go F k' 0 (α 4) l1I 0 S Φ) ∧ (∀ (l1I : Int32) (S : wPS) (V : mV) , mRel α S Ln V → mX5_begin_go F k' 1 l1I 0 V = some (v, V1) → (∀ S1, mRel α S1 Ln V1 → mFr α S S1 → Φ v S1) → rX5_begin_go F k' 1 (α 4) l1I 0 S Φ) ∧ (∀ (l1I : Int32) (l2I : Int32) (S : wPS) (V : mV) , mRel α S Ln V → mX5_begin_go F k' 2 l1I l2I V = some (v, V1) → (∀ S1, mRel α S1 Ln V1 → mFr α S S1 → Φ v S1) → rX5_begin_go F k' 2 (α 4) l1I l2I S Φ) := by
  intro k'
  induction k' with
  | zero => exact ⟨(fun _ _ _ _ h _ => by cases h), (fun _ _ _ _ h _ => by cases h), (fun _ _ _ _ _ h _ => by cases h)⟩
  | succ k' ih =>
    refine ⟨?_, ?_, ?_⟩
    · intro l1I S V R h k
      rw [mX5_begin_go, if_pos rfl] at h
      rw [rX5_begin_go, if_pos rfl]
      unfold mX5_begin_b0 at h
      unfold rX5_begin_b0
      refine mIf h (by rw [show gInequalities_columns S (α 4) = V.fI 4 5 from (mg_I (i := 4) R (by decide) rfl 5)]) (fun c1 h => ?_) (fun c1 h => ?_)
      · exact ih.2.1 _ _ _ R h (fun S1 R1 F1 => k S1 R1 F1)
      · refine mGd h (by rw [show S.len (wkAd (gInequalities_columnLabels S (α 4))) = 18 from (mg_len (i := 51) R (mA13 rfl) (mg_A (t := 51) R rfl rfl))]) (fun c2 h => ?_)
        obtain ⟨V3, eV3, h⟩ := mLt_some h
        refine mU_I eV3 R (mA13 rfl) (mg_A (t := 51) R rfl rfl) rfl rfl (fun S3 R3 F3 => ?_)
        refine mLet h rfl (fun x4 ex4 h => ?_)
        exact ih.1 _ _ _ R3 h (fun S1 R1 F1 => k S1 R1 (F3.tr F1))
    · intro l1I S V R h k
      rw [mX5_begin_go, if_neg (by decide), if_pos rfl] at h
      rw [rX5_begin_go, if_neg (by decide), if_pos rfl]
      unfold mX5_begin_b1 at h
      unfold rX5_begin_b1
      refine mIf h (by rw [show gInequalities_rows S (α 4) = V.fI 4 4 from (mg_I (i := 4) R (by decide) rfl 4)]) (fun c3 h => ?_) (fun c3 h => ?_)
      · obtain ⟨rfl, rfl⟩ := mRW h
        exact k _ R mFr.rf
      · refine mGd h (by rw [show S.len (wkAd (gInequalities_rowLabels S (α 4))) = 14 from (mg_len (i := 50) R (mA13 rfl) (mg_A (t := 50) R rfl rfl))]) (fun c4 h => ?_)
        obtain ⟨V7, eV7, h⟩ := mLt_some h
        refine mU_I eV7 R (mA13 rfl) (mg_A (t := 50) R rfl rfl) rfl (by rw [show gInequalities_columns S (α 4) = V.fI 4 5 from (mg_I (i := 4) R (by decide) rfl 5)]) (fun S7 R7 F7 => ?_)
        exact ih.2.2 _ _ _ _ R7 h (fun S1 R1 F1 => k S1 R1 (F7.tr F1))
    · intro l1I l2I S V R h k
      rw [mX5_begin_go, if_neg (by decide), if_neg (by decide), if_pos rfl] at h
      rw [rX5_begin_go, if_neg (by decide), if_neg (by decide), if_pos rfl]
      unfold mX5_begin_b2 at h
      unfold rX5_begin_b2
      refine mIf h (by rw [show gInequalities_columns S (α 4) = V.fI 4 5 from (mg_I (i := 4) R (by decide) rfl 5)]) (fun c5 h => ?_) (fun c5 h => ?_)
      · refine mLet h rfl (fun x9 ex9 h => ?_)
        exact ih.2.1 _ _ _ R h (fun S1 R1 F1 => k S1 R1 F1)
      · refine mGd h (by rw [show S.len (wkAd (gInequalities_table S (α 4))) = 14 from (mg_len (i := 35) R (mAr (by decide)) (mg_A (t := 35) R rfl rfl)), show gInequalities_rows S (α 4) = V.fI 4 4 from (mg_I (i := 4) R (by decide) rfl 4)]) (fun c6 h => ?_)
        refine mGd h (by rw [show S.len (wkAd (S.rA (wkAd (gInequalities_table S (α 4))) ((gInequalities_rows S (α 4))).toNatClampNeg)) = 18 from ((mg_len R (mA14 (mKA35 (Nat.lt_of_not_le (fun z => c6 (Or.inr z))))) (mg_RA R (mRA35 (Nat.lt_of_not_le (fun z => c6 (Or.inr z)))) (mg_A (t := 35) R rfl rfl) (by rw [show gInequalities_rows S (α 4) = V.fI 4 4 from (mg_I (i := 4) R (by decide) rfl 4)]))).trans (mLA35 (Nat.lt_of_not_le (fun z => c6 (Or.inr z)))))]) (fun c7 h => ?_)
        refine mGd h (by rw [show S.len (wkAd (gInequalities_table S (α 4))) = 14 from (mg_len (i := 35) R (mAr (by decide)) (mg_A (t := 35) R rfl rfl))]) (fun c8 h => ?_)
        refine mGd h (by rw [show S.len (wkAd (S.rA (wkAd (gInequalities_table S (α 4))) (l1I).toNatClampNeg)) = 18 from ((mg_len R (mA14 (mKA35 (Nat.lt_of_not_le (fun z => c8 (Or.inr z))))) (mg_RA R (mRA35 (Nat.lt_of_not_le (fun z => c8 (Or.inr z)))) (mg_A (t := 35) R rfl rfl) rfl)).trans (mLA35 (Nat.lt_of_not_le (fun z => c8 (Or.inr z)))))]) (fun c9 h => ?_)
        refine mGd h (by rw [show S.len (wkAd (S.rA (wkAd (gInequalities_table S (α 4))) ((gInequalities_rows S (α 4))).toNatClampNeg)) = 18 from ((mg_len R (mA14 (mKA35 (Nat.lt_of_not_le (fun z => c6 (Or.inr z))))) (mg_RA R (mRA35 (Nat.lt_of_not_le (fun z => c6 (Or.inr z)))) (mg_A (t := 35) R rfl rfl) (by rw [show gInequalities_rows S (α 4) = V.fI 4 4 from (mg_I (i := 4) R (by decide) rfl 4)]))).trans (mLA35 (Nat.lt_of_not_le (fun z => c6 (Or.inr z)))))]) (fun c10 h => ?_)
        obtain ⟨V17, eV17, h⟩ := mLt_some h
        refine mU_J eV17 R (mA14 (mKA35 (Nat.lt_of_not_le (fun z => c6 (Or.inr z))))) (mg_RA R (mRA35 (Nat.lt_of_not_le (fun z => c6 (Or.inr z)))) (mg_A (t := 35) R rfl rfl) (by rw [show gInequalities_rows S (α 4) = V.fI 4 4 from (mg_I (i := 4) R (by decide) rfl 4)])) rfl (by rw [show S.rJ (wkAd (S.rA (wkAd (gInequalities_table S (α 4))) ((gInequalities_rows S (α 4))).toNatClampNeg)) (l2I).toNatClampNeg = V.rJ (36 + ((V.fI 4 4)).toNatClampNeg) (l2I).toNatClampNeg from (mg_rJ (i := (36 + ((V.fI 4 4)).toNatClampNeg)) R (mA14 (mKA35 (Nat.lt_of_not_le (fun z => c6 (Or.inr z))))) (mg_RA R (mRA35 (Nat.lt_of_not_le (fun z => c6 (Or.inr z)))) (mg_A (t := 35) R rfl rfl) (by rw [show gInequalities_rows S (α 4) = V.fI 4 4 from (mg_I (i := 4) R (by decide) rfl 4)])) rfl), show S.rJ (wkAd (S.rA (wkAd (gInequalities_table S (α 4))) (l1I).toNatClampNeg)) (l2I).toNatClampNeg = V.rJ (36 + (l1I).toNatClampNeg) (l2I).toNatClampNeg from (mg_rJ (i := (36 + (l1I).toNatClampNeg)) R (mA14 (mKA35 (Nat.lt_of_not_le (fun z => c8 (Or.inr z))))) (mg_RA R (mRA35 (Nat.lt_of_not_le (fun z => c8 (Or.inr z)))) (mg_A (t := 35) R rfl rfl) rfl) rfl)]) (fun S17 R17 F17 => ?_)
        refine mLet h rfl (fun x18 ex18 h => ?_)
        exact ih.2.2 _ _ _ _ R17 h (fun S1 R1 F1 => k S1 R1 (F17.tr F1))
set_option maxHeartbeats 4000000 in
set_option maxRecDepth 100000 in
theorem LX5_begin {α : Nat → Nat} {F : Nat} {S : wPS} {Ln : Nat → Nat} {V V1 : mV} {v : Unit} {Φ : (Unit → wPS → Prop)} {l0Ax : Nat} (h : mX5_begin F V = some (v, V1)) (R : mRel α S Ln V) (el0A : l0Ax = α 4) (k : (∀ S1, mRel α S1 Ln V1 → mFr α S S1 → Φ v S1)) : rX5_begin F l0Ax S Φ := by
  have el0A := el0A.symm
  subst el0A
  have ih := LX5_begin_go  (α := α) (F := F) (v := v) (Ln := Ln) (Φ := Φ) (V1 := V1) F
  unfold mX5_begin mX5_begin_s at h
  unfold rX5_begin rX5_begin_s
  obtain ⟨V19, eV19, h⟩ := mLt_some h
  refine mU_G eV19 R (by decide) rfl rfl (fun S19 R19 F19 => ?_)
  obtain ⟨V20, eV20, h⟩ := mLt_some h
  refine mU_F eV20 R19 (by decide) rfl rfl (fun S20 R20 F20 => ?_)
  exact ih.1 _ _ _ R20 h (fun S1 R1 F1 => k S1 R1 (F19.tr (F20.tr F1)))
end
