/-! LIFTED BY PROGRAM (lift.py): X9_firstUnlike, X9_total, X9_liesWithin, X9_isRising, X9_holds, X10_loadPoints, X10_rankOf, X10_codeOf, X10_firstWord, X10_secondWord, X10_beyondWords, X10_addNext, X10_lettersOf, X11_entries, X11_person, X11_wipe, X11_canHaveSize, X11_canHaveBound. -/
section
def mX9_firstUnlike_b0 (F : Nat) (rec : Nat → (Nat → Nat) → Nat → Nat → Int32 → Int32 → mV → Option Int32) (Ln : Nat → Nat) (l0A : Nat) (l1A : Nat) (l2I : Int32) (l3I : Int32) (V : mV) : Option Int32 :=
  (if l2I ≤ l3I then some (l2I) else (if l3I < 0 ∨ Ln (l0A + 1) ≤ (l3I).toNatClampNeg then none else (if l3I < 0 ∨ Ln (l1A + 1) ≤ (l3I).toNatClampNeg then none else (if (V.rI (l0A + 1) (l3I).toNatClampNeg) = (V.rI (l1A + 1) (l3I).toNatClampNeg) then (mLt (l3I + (1 : Int32)) fun x5 => (rec 0 Ln l0A l1A (l2I) (x5) V)) else some (l3I)))))
def mX9_firstUnlike_go (F : Nat) : Nat → Nat → (Nat → Nat) → Nat → Nat → Int32 → Int32 → mV → Option Int32
  | 0, _, _, _, _, _, _, _ => none
  | k' + 1, lab, Ln, l0A, l1A, l2I, l3I, V => if lab = 0 then mX9_firstUnlike_b0 F (mX9_firstUnlike_go F k') Ln l0A l1A l2I l3I V else none
def mX9_firstUnlike_s (F : Nat) (rec : Nat → (Nat → Nat) → Nat → Nat → Int32 → Int32 → mV → Option Int32) (Ln : Nat → Nat) (l0A : Nat) (l1A : Nat) (V : mV) : Option Int32 :=
  (mLt (if (V.fI l1A 1) < (V.fI l0A 1) then (V.fI l1A 1) else (V.fI l0A 1)) fun x6 => (rec 0 Ln l0A l1A (x6) ((0 : Int32)) V))
def mX9_firstUnlike (F : Nat) (Ln : Nat → Nat) (l0A : Nat) (l1A : Nat) (V : mV) : Option Int32 := mX9_firstUnlike_s F (mX9_firstUnlike_go F F) Ln l0A l1A V
set_option maxHeartbeats 4000000 in
set_option maxRecDepth 100000 in
theorem LX9_firstUnlike_go {α : Nat → Nat} {F : Nat} {v : Int32} {Φ : (Int32 → wPS → Prop)} : ∀ k' : Nat, (∀ (l0A : Nat) (l1A : Nat) (l2I : Int32) (l3I : Int32) (S : wPS) (V : mV) (Ln : Nat → Nat) , mRel α S Ln V → mK l0A = 9 → mK l1A = 9 → mX9_firstUnlike_go F k' 0 Ln l0A l1A l2I l3I V = some v → (Φ v S) → rX9_firstUnlike_go F k' 0 (α l0A) (α l1A) l2I l3I S Φ) := by
  intro k'
  induction k' with
  | zero => exact (fun _ _ _ _ _ _ _ _ _ _ h _ => by cases h)
  | succ k' ih =>
    intro l0A l1A l2I l3I S V Ln R sl0A sl1A h k
    rw [mX9_firstUnlike_go, if_pos rfl] at h
    rw [rX9_firstUnlike_go, if_pos rfl]
    unfold mX9_firstUnlike_b0 at h
    unfold rX9_firstUnlike_b0
    refine mIf h Iff.rfl (fun c1 h => ?_) (fun c1 h => ?_)
    · cases h
      exact k
    · refine mGd h (by rw [show S.len (wkAd (gRow_numbers S (α l0A))) = Ln (l0A + 1) from (md_len R (mK9 sl0A) (mg_D (S := S) sl0A rfl))]) (fun c2 h => ?_)
      refine mGd h (by rw [show S.len (wkAd (gRow_numbers S (α l1A))) = Ln (l1A + 1) from (md_len R (mK9 sl1A) (mg_D (S := S) sl1A rfl))]) (fun c3 h => ?_)
      refine mIf h (by rw [show S.rI (wkAd (gRow_numbers S (α l0A))) (l3I).toNatClampNeg = V.rI (l0A + 1) (l3I).toNatClampNeg from (md_rI R (mK9 sl0A) (mg_D (S := S) sl0A rfl) rfl), show S.rI (wkAd (gRow_numbers S (α l1A))) (l3I).toNatClampNeg = V.rI (l1A + 1) (l3I).toNatClampNeg from (md_rI R (mK9 sl1A) (mg_D (S := S) sl1A rfl) rfl)]) (fun c4 h => ?_) (fun c4 h => ?_)
      · refine mLet h rfl (fun x5 ex5 h => ?_)
        exact ih _ _ _ _ _ _ _ R sl0A sl1A h k
      · cases h
        exact k
set_option maxHeartbeats 4000000 in
set_option maxRecDepth 100000 in
theorem LX9_firstUnlike {α : Nat → Nat} {F : Nat} {S : wPS} {Ln : Nat → Nat} {V : mV} {v : Int32} {Φ : (Int32 → wPS → Prop)} {l0Ax : Nat} {l0A : Nat} {l1Ax : Nat} {l1A : Nat} (h : mX9_firstUnlike F Ln l0A l1A V = some v) (R : mRel α S Ln V) (sl0A : mK l0A = 9) (sl1A : mK l1A = 9) (el0A : l0Ax = α l0A) (el1A : l1Ax = α l1A) (k : (Φ v S)) : rX9_firstUnlike F l0Ax l1Ax S Φ := by
  have el0A := el0A.symm
  subst el0A
  have el1A := el1A.symm
  subst el1A
  have ih := LX9_firstUnlike_go  (α := α) (F := F) (v := v) (Φ := Φ) F
  unfold mX9_firstUnlike mX9_firstUnlike_s at h
  unfold rX9_firstUnlike rX9_firstUnlike_s
  refine mLet h (by rw [show gRow_count S (α l1A) = V.fI l1A 1 from (mg_I (i := l1A) R (mO9 sl1A) rfl 1), show gRow_count S (α l0A) = V.fI l0A 1 from (mg_I (i := l0A) R (mO9 sl0A) rfl 1)]) (fun x6 ex6 h => ?_)
  exact ih _ _ _ _ _ _ _ R sl0A sl1A h k
def mX9_total_b0 (F : Nat) (rec : Nat → (Nat → Nat) → Nat → Int64 → Int32 → mV → Option Int64) (Ln : Nat → Nat) (l0A : Nat) (l1J : Int64) (l3I : Int32) (V : mV) : Option Int64 :=
  (if (V.fI l0A 1) ≤ l3I then some (l1J) else (if l3I < 0 ∨ Ln (l0A + 1) ≤ (l3I).toNatClampNeg then none else (mLt (((31 : Int64) * l1J) + (Int32.toInt64 (V.rI (l0A + 1) (l3I).toNatClampNeg))) fun x3 => (mLt (l3I + (1 : Int32)) fun x4 => (rec 0 Ln l0A (x3) (x4) V)))))
def mX9_total_go (F : Nat) : Nat → Nat → (Nat → Nat) → Nat → Int64 → Int32 → mV → Option Int64
  | 0, _, _, _, _, _, _ => none
  | k' + 1, lab, Ln, l0A, l1J, l3I, V => if lab = 0 then mX9_total_b0 F (mX9_total_go F k') Ln l0A l1J l3I V else none
def mX9_total_s (F : Nat) (rec : Nat → (Nat → Nat) → Nat → Int64 → Int32 → mV → Option Int64) (Ln : Nat → Nat) (l0A : Nat) (V : mV) : Option Int64 :=
  (rec 0 Ln l0A ((7 : Int64)) ((0 : Int32)) V)
def mX9_total (F : Nat) (Ln : Nat → Nat) (l0A : Nat) (V : mV) : Option Int64 := mX9_total_s F (mX9_total_go F F) Ln l0A V
set_option maxHeartbeats 4000000 in
set_option maxRecDepth 100000 in
theorem LX9_total_go {α : Nat → Nat} {F : Nat} {v : Int64} {Φ : (Int64 → wPS → Prop)} : ∀ k' : Nat, (∀ (l0A : Nat) (l1J : Int64) (l3I : Int32) (S : wPS) (V : mV) (Ln : Nat → Nat) , mRel α S Ln V → mK l0A = 9 → mX9_total_go F k' 0 Ln l0A l1J l3I V = some v → (Φ v S) → rX9_total_go F k' 0 (α l0A) l1J l3I S Φ) := by
  intro k'
  induction k' with
  | zero => exact (fun _ _ _ _ _ _ _ _ h _ => by cases h)
  | succ k' ih =>
    intro l0A l1J l3I S V Ln R sl0A h k
    rw [mX9_total_go, if_pos rfl] at h
    rw [rX9_total_go, if_pos rfl]
    unfold mX9_total_b0 at h
    unfold rX9_total_b0
    refine mIf h (by rw [show gRow_count S (α l0A) = V.fI l0A 1 from (mg_I (i := l0A) R (mO9 sl0A) rfl 1)]) (fun c1 h => ?_) (fun c1 h => ?_)
    · cases h
      exact k
    · refine mGd h (by rw [show S.len (wkAd (gRow_numbers S (α l0A))) = Ln (l0A + 1) from (md_len R (mK9 sl0A) (mg_D (S := S) sl0A rfl))]) (fun c2 h => ?_)
      refine mLet h (by rw [show S.rI (wkAd (gRow_numbers S (α l0A))) (l3I).toNatClampNeg = V.rI (l0A + 1) (l3I).toNatClampNeg from (md_rI R (mK9 sl0A) (mg_D (S := S) sl0A rfl) rfl)]) (fun x3 ex3 h => ?_)
      refine mLet h rfl (fun x4 ex4 h => ?_)
      exact ih _ _ _ _ _ _ R sl0A h k
set_option maxHeartbeats 4000000 in
set_option maxRecDepth 100000 in
theorem LX9_total {α : Nat → Nat} {F : Nat} {S : wPS} {Ln : Nat → Nat} {V : mV} {v : Int64} {Φ : (Int64 → wPS → Prop)} {l0Ax : Nat} {l0A : Nat} (h : mX9_total F Ln l0A V = some v) (R : mRel α S Ln V) (sl0A : mK l0A = 9) (el0A : l0Ax = α l0A) (k : (Φ v S)) : rX9_total F l0Ax S Φ := by
  have el0A := el0A.symm
  subst el0A
  have ih := LX9_total_go  (α := α) (F := F) (v := v) (Φ := Φ) F
  unfold mX9_total mX9_total_s at h
  unfold rX9_total rX9_total_s
  exact ih _ _ _ _ _ _ R sl0A h k
def mX9_liesWithin_b0 (F : Nat) (rec : Nat → (Nat → Nat) → Nat → Int32 → Int32 → Int32 → mV → Option Int32) (Ln : Nat → Nat) (l0A : Nat) (l2I : Int32) (l3I : Int32) (l4I : Int32) (V : mV) : Option Int32 :=
  (if (V.fI l0A 1) ≤ l4I then some ((1 : Int32)) else (if l4I < 0 ∨ Ln (l0A + 1) ≤ (l4I).toNatClampNeg then none else (if (V.rI (l0A + 1) (l4I).toNatClampNeg) < l2I then some ((0 : Int32)) else (if l4I < 0 ∨ Ln (l0A + 1) ≤ (l4I).toNatClampNeg then none else (if (V.rI (l0A + 1) (l4I).toNatClampNeg) ≤ l3I then (mLt (l4I + (1 : Int32)) fun x6 => (rec 0 Ln l0A (l2I) (l3I) (x6) V)) else some ((0 : Int32)))))))
def mX9_liesWithin_go (F : Nat) : Nat → Nat → (Nat → Nat) → Nat → Int32 → Int32 → Int32 → mV → Option Int32
  | 0, _, _, _, _, _, _, _ => none
  | k' + 1, lab, Ln, l0A, l2I, l3I, l4I, V => if lab = 0 then mX9_liesWithin_b0 F (mX9_liesWithin_go F k') Ln l0A l2I l3I l4I V else none
def mX9_liesWithin_s (F : Nat) (rec : Nat → (Nat → Nat) → Nat → Int32 → Int32 → Int32 → mV → Option Int32) (Ln : Nat → Nat) (l0A : Nat) (l1I : Int32) (l2I : Int32) (l3I : Int32) (V : mV) : Option Int32 :=
  (rec 0 Ln l0A (l2I) (l3I) (l1I) V)
def mX9_liesWithin (F : Nat) (Ln : Nat → Nat) (l0A : Nat) (l1I : Int32) (l2I : Int32) (l3I : Int32) (V : mV) : Option Int32 := mX9_liesWithin_s F (mX9_liesWithin_go F F) Ln l0A l1I l2I l3I V
set_option maxHeartbeats 4000000 in
set_option maxRecDepth 100000 in
theorem LX9_liesWithin_go {α : Nat → Nat} {F : Nat} {v : Int32} {Φ : (Int32 → wPS → Prop)} : ∀ k' : Nat, (∀ (l0A : Nat) (l2I : Int32) (l3I : Int32) (l4I : Int32) (S : wPS) (V : mV) (Ln : Nat → Nat) , mRel α S Ln V → mK l0A = 9 → mX9_liesWithin_go F k' 0 Ln l0A l2I l3I l4I V = some v → (Φ v S) → rX9_liesWithin_go F k' 0 (α l0A) l2I l3I l4I S Φ) := by
  intro k'
  induction k' with
  | zero => exact (fun _ _ _ _ _ _ _ _ _ h _ => by cases h)
  | succ k' ih =>
    intro l0A l2I l3I l4I S V Ln R sl0A h k
    rw [mX9_liesWithin_go, if_pos rfl] at h
    rw [rX9_liesWithin_go, if_pos rfl]
    unfold mX9_liesWithin_b0 at h
    unfold rX9_liesWithin_b0
    refine mIf h (by rw [show gRow_count S (α l0A) = V.fI l0A 1 from (mg_I (i := l0A) R (mO9 sl0A) rfl 1)]) (fun c1 h => ?_) (fun c1 h => ?_)
    · cases h
      exact k
    · refine mGd h (by rw [show S.len (wkAd (gRow_numbers S (α l0A))) = Ln (l0A + 1) from (md_len R (mK9 sl0A) (mg_D (S := S) sl0A rfl))]) (fun c2 h => ?_)
      refine mIf h (by rw [show S.rI (wkAd (gRow_numbers S (α l0A))) (l4I).toNatClampNeg = V.rI (l0A + 1) (l4I).toNatClampNeg from (md_rI R (mK9 sl0A) (mg_D (S := S) sl0A rfl) rfl)]) (fun c3 h => ?_) (fun c3 h => ?_)
      · cases h
        exact k
      · refine mGd h (by rw [show S.len (wkAd (gRow_numbers S (α l0A))) = Ln (l0A + 1) from (md_len R (mK9 sl0A) (mg_D (S := S) sl0A rfl))]) (fun c4 h => ?_)
        refine mIf h (by rw [show S.rI (wkAd (gRow_numbers S (α l0A))) (l4I).toNatClampNeg = V.rI (l0A + 1) (l4I).toNatClampNeg from (md_rI R (mK9 sl0A) (mg_D (S := S) sl0A rfl) rfl)]) (fun c5 h => ?_) (fun c5 h => ?_)
        · refine mLet h rfl (fun x6 ex6 h => ?_)
          exact ih _ _ _ _ _ _ _ R sl0A h k
        · cases h
          exact k
set_option maxHeartbeats 4000000 in
set_option maxRecDepth 100000 in
theorem LX9_liesWithin {α : Nat → Nat} {F : Nat} {S : wPS} {Ln : Nat → Nat} {V : mV} {v : Int32} {Φ : (Int32 → wPS → Prop)} {l0Ax : Nat} {l0A : Nat} {l1Ix l1I : Int32} {l2Ix l2I : Int32} {l3Ix l3I : Int32} (h : mX9_liesWithin F Ln l0A l1I l2I l3I V = some v) (R : mRel α S Ln V) (sl0A : mK l0A = 9) (el0A : l0Ax = α l0A) (el1I : l1Ix = l1I) (el2I : l2Ix = l2I) (el3I : l3Ix = l3I) (k : (Φ v S)) : rX9_liesWithin F l0Ax l1Ix l2Ix l3Ix S Φ := by
  have el0A := el0A.symm
  subst el0A
  have el1I := el1I.symm
  subst el1I
  have el2I := el2I.symm
  subst el2I
  have el3I := el3I.symm
  subst el3I
  have ih := LX9_liesWithin_go  (α := α) (F := F) (v := v) (Φ := Φ) F
  unfold mX9_liesWithin mX9_liesWithin_s at h
  unfold rX9_liesWithin rX9_liesWithin_s
  exact ih _ _ _ _ _ _ _ R sl0A h k
def mX9_isRising_b0 (F : Nat) (rec : Nat → (Nat → Nat) → Nat → Int32 → mV → Option Int32) (Ln : Nat → Nat) (l0A : Nat) (l2I : Int32) (V : mV) : Option Int32 :=
  (if (V.fI l0A 1) ≤ l2I then some ((1 : Int32)) else (if l2I < 0 ∨ Ln (l0A + 1) ≤ (l2I).toNatClampNeg then none else (if (l2I - (1 : Int32)) < 0 ∨ Ln (l0A + 1) ≤ ((l2I - (1 : Int32))).toNatClampNeg then none else (if (V.rI (l0A + 1) ((l2I - (1 : Int32))).toNatClampNeg) < (V.rI (l0A + 1) (l2I).toNatClampNeg) then (mLt (l2I + (1 : Int32)) fun x5 => (rec 0 Ln l0A (x5) V)) else some ((0 : Int32))))))
def mX9_isRising_go (F : Nat) : Nat → Nat → (Nat → Nat) → Nat → Int32 → mV → Option Int32
  | 0, _, _, _, _, _ => none
  | k' + 1, lab, Ln, l0A, l2I, V => if lab = 0 then mX9_isRising_b0 F (mX9_isRising_go F k') Ln l0A l2I V else none
def mX9_isRising_s (F : Nat) (rec : Nat → (Nat → Nat) → Nat → Int32 → mV → Option Int32) (Ln : Nat → Nat) (l0A : Nat) (l1I : Int32) (V : mV) : Option Int32 :=
  (mLt (l1I + (1 : Int32)) fun x6 => (rec 0 Ln l0A (x6) V))
def mX9_isRising (F : Nat) (Ln : Nat → Nat) (l0A : Nat) (l1I : Int32) (V : mV) : Option Int32 := mX9_isRising_s F (mX9_isRising_go F F) Ln l0A l1I V
set_option maxHeartbeats 4000000 in
set_option maxRecDepth 100000 in
theorem LX9_isRising_go {α : Nat → Nat} {F : Nat} {v : Int32} {Φ : (Int32 → wPS → Prop)} : ∀ k' : Nat, (∀ (l0A : Nat) (l2I : Int32) (S : wPS) (V : mV) (Ln : Nat → Nat) , mRel α S Ln V → mK l0A = 9 → mX9_isRising_go F k' 0 Ln l0A l2I V = some v → (Φ v S) → rX9_isRising_go F k' 0 (α l0A) l2I S Φ) := by
  intro k'
  induction k' with
  | zero => exact (fun _ _ _ _ _ _ _ h _ => by cases h)
  | succ k' ih =>
    intro l0A l2I S V Ln R sl0A h k
    rw [mX9_isRising_go, if_pos rfl] at h
    rw [rX9_isRising_go, if_pos rfl]
    unfold mX9_isRising_b0 at h
    unfold rX9_isRising_b0
    refine mIf h (by rw [show gRow_count S (α l0A) = V.fI l0A 1 from (mg_I (i := l0A) R (mO9 sl0A) rfl 1)]) (fun c1 h => ?_) (fun c1 h => ?_)
    · cases h
      exact k
    · refine mGd h (by rw [show S.len (wkAd (gRow_numbers S (α l0A))) = Ln (l0A + 1) from (md_len R (mK9 sl0A) (mg_D (S := S) sl0A rfl))]) (fun c2 h => ?_)
      refine mGd h (by rw [show S.len (wkAd (gRow_numbers S (α l0A))) = Ln (l0A + 1) from (md_len R (mK9 sl0A) (mg_D (S := S) sl0A rfl))]) (fun c3 h => ?_)
      refine mIf h (by rw [show S.rI (wkAd (gRow_numbers S (α l0A))) ((l2I - (1 : Int32))).toNatClampNeg = V.rI (l0A + 1) ((l2I - (1 : Int32))).toNatClampNeg from (md_rI R (mK9 sl0A) (mg_D (S := S) sl0A rfl) rfl), show S.rI (wkAd (gRow_numbers S (α l0A))) (l2I).toNatClampNeg = V.rI (l0A + 1) (l2I).toNatClampNeg from (md_rI R (mK9 sl0A) (mg_D (S := S) sl0A rfl) rfl)]) (fun c4 h => ?_) (fun c4 h => ?_)
      · refine mLet h rfl (fun x5 ex5 h => ?_)
        exact ih _ _ _ _ _ R sl0A h k
      · cases h
        exact k
set_option maxHeartbeats 4000000 in
set_option maxRecDepth 100000 in
theorem LX9_isRising {α : Nat → Nat} {F : Nat} {S : wPS} {Ln : Nat → Nat} {V : mV} {v : Int32} {Φ : (Int32 → wPS → Prop)} {l0Ax : Nat} {l0A : Nat} {l1Ix l1I : Int32} (h : mX9_isRising F Ln l0A l1I V = some v) (R : mRel α S Ln V) (sl0A : mK l0A = 9) (el0A : l0Ax = α l0A) (el1I : l1Ix = l1I) (k : (Φ v S)) : rX9_isRising F l0Ax l1Ix S Φ := by
  have el0A := el0A.symm
  subst el0A
  have el1I := el1I.symm
  subst el1I
  have ih := LX9_isRising_go  (α := α) (F := F) (v := v) (Φ := Φ) F
  unfold mX9_isRising mX9_isRising_s at h
  unfold rX9_isRising rX9_isRising_s
  refine mLet h rfl (fun x6 ex6 h => ?_)
  exact ih _ _ _ _ _ R sl0A h k
def mX9_holds_b0 (F : Nat) (rec : Nat → (Nat → Nat) → Nat → Int32 → Int32 → Int32 → Int32 → mV → Option Int32) (Ln : Nat → Nat) (l0A : Nat) (l2I : Int32) (l3I : Int32) (l4I : Int32) (l5I : Int32) (V : mV) : Option Int32 :=
  (if (32 : Int32) ≤ l5I then some ((0 : Int32)) else (if l4I < l3I then some ((0 : Int32)) else (mLt ((l3I + l4I) / (2 : Int32)) fun x3 => (if x3 < 0 ∨ Ln (l0A + 1) ≤ (x3).toNatClampNeg then none else (if (V.rI (l0A + 1) (x3).toNatClampNeg) = l2I then some ((1 : Int32)) else (if x3 < 0 ∨ Ln (l0A + 1) ≤ (x3).toNatClampNeg then none else (if l2I ≤ (V.rI (l0A + 1) (x3).toNatClampNeg) then (mLt (x3 - (1 : Int32)) fun x8 => (mLt (l5I + (1 : Int32)) fun x9 => (rec 0 Ln l0A (l2I) (l3I) (x8) (x9) V))) else (mLt (x3 + (1 : Int32)) fun x10 => (mLt (l5I + (1 : Int32)) fun x11 => (rec 0 Ln l0A (l2I) (x10) (l4I) (x11) V))))))))))
def mX9_holds_go (F : Nat) : Nat → Nat → (Nat → Nat) → Nat → Int32 → Int32 → Int32 → Int32 → mV → Option Int32
  | 0, _, _, _, _, _, _, _, _ => none
  | k' + 1, lab, Ln, l0A, l2I, l3I, l4I, l5I, V => if lab = 0 then mX9_holds_b0 F (mX9_holds_go F k') Ln l0A l2I l3I l4I l5I V else none
def mX9_holds_s (F : Nat) (rec : Nat → (Nat → Nat) → Nat → Int32 → Int32 → Int32 → Int32 → mV → Option Int32) (Ln : Nat → Nat) (l0A : Nat) (l1I : Int32) (l2I : Int32) (V : mV) : Option Int32 :=
  (mLt ((V.fI l0A 1) - (1 : Int32)) fun x12 => (rec 0 Ln l0A (l2I) (l1I) (x12) ((0 : Int32)) V))
def mX9_holds (F : Nat) (Ln : Nat → Nat) (l0A : Nat) (l1I : Int32) (l2I : Int32) (V : mV) : Option Int32 := mX9_holds_s F (mX9_holds_go F F) Ln l0A l1I l2I V
set_option maxHeartbeats 4000000 in
set_option maxRecDepth 100000 in
theorem LX9_holds_go {α : Nat → Nat} {F : Nat} {v : Int32} {Φ : (Int32 → wPS → Prop)} : ∀ k' : Nat, (∀ (l0A : Nat) (l2I : Int32) (l3I : Int32) (l4I : Int32) (l5I : Int32) (S : wPS) (V : mV) (Ln : Nat → Nat) , mRel α S Ln V → mK l0A = 9 → mX9_holds_go F k' 0 Ln l0A l2I l3I l4I l5I V = some v → (Φ v S) → rX9_holds_go F k' 0 (α l0A) l2I l3I l4I l5I S Φ) := by
  intro k'
  induction k' with
  | zero => exact (fun _ _ _ _ _ _ _ _ _ _ h _ => by cases h)
  | succ k' ih =>
    intro l0A l2I l3I l4I l5I S V Ln R sl0A h k
    rw [mX9_holds_go, if_pos rfl] at h
    rw [rX9_holds_go, if_pos rfl]
    unfold mX9_holds_b0 at h
    unfold rX9_holds_b0
    refine mIf h Iff.rfl (fun c1 h => ?_) (fun c1 h => ?_)
    · cases h
      exact k
    · refine mIf h Iff.rfl (fun c2 h => ?_) (fun c2 h => ?_)
      · cases h
        exact k
      · refine mLet h rfl (fun x3 ex3 h => ?_)
        refine mGd h (by rw [show S.len (wkAd (gRow_numbers S (α l0A))) = Ln (l0A + 1) from (md_len R (mK9 sl0A) (mg_D (S := S) sl0A rfl))]) (fun c3 h => ?_)
        refine mIf h (by rw [show S.rI (wkAd (gRow_numbers S (α l0A))) (x3).toNatClampNeg = V.rI (l0A + 1) (x3).toNatClampNeg from (md_rI R (mK9 sl0A) (mg_D (S := S) sl0A rfl) rfl)]) (fun c4 h => ?_) (fun c4 h => ?_)
        · cases h
          exact k
        · refine mGd h (by rw [show S.len (wkAd (gRow_numbers S (α l0A))) = Ln (l0A + 1) from (md_len R (mK9 sl0A) (mg_D (S := S) sl0A rfl))]) (fun c5 h => ?_)
          refine mIf h (by rw [show S.rI (wkAd (gRow_numbers S (α l0A))) (x3).toNatClampNeg = V.rI (l0A + 1) (x3).toNatClampNeg from (md_rI R (mK9 sl0A) (mg_D (S := S) sl0A rfl) rfl)]) (fun c6 h => ?_) (fun c6 h => ?_)
          · refine mLet h rfl (fun x8 ex8 h => ?_)
            refine mLet h rfl (fun x9 ex9 h => ?_)
            exact ih _ _ _ _ _ _ _ _ R sl0A h k
          · refine mLet h rfl (fun x10 ex10 h => ?_)
            refine mLet h rfl (fun x11 ex11 h => ?_)
            exact ih _ _ _ _ _ _ _ _ R sl0A h k
set_option maxHeartbeats 4000000 in
set_option maxRecDepth 100000 in
theorem LX9_holds {α : Nat → Nat} {F : Nat} {S : wPS} {Ln : Nat → Nat} {V : mV} {v : Int32} {Φ : (Int32 → wPS → Prop)} {l0Ax : Nat} {l0A : Nat} {l1Ix l1I : Int32} {l2Ix l2I : Int32} (h : mX9_holds F Ln l0A l1I l2I V = some v) (R : mRel α S Ln V) (sl0A : mK l0A = 9) (el0A : l0Ax = α l0A) (el1I : l1Ix = l1I) (el2I : l2Ix = l2I) (k : (Φ v S)) : rX9_holds F l0Ax l1Ix l2Ix S Φ := by
  have el0A := el0A.symm
  subst el0A
  have el1I := el1I.symm
  subst el1I
  have el2I := el2I.symm
  subst el2I
  have ih := LX9_holds_go  (α := α) (F := F) (v := v) (Φ := Φ) F
  unfold mX9_holds mX9_holds_s at h
  unfold rX9_holds rX9_holds_s
  refine mLet h (by rw [show gRow_count S (α l0A) = V.fI l0A 1 from (mg_I (i := l0A) R (mO9 sl0A) rfl 1)]) (fun x12 ex12 h => ?_)
  exact ih _ _ _ _ _ _ _ _ R sl0A h k
def mX10_loadPoints_b0 (F : Nat) (rec : Nat → Nat → Int32 → Nat → Int32 → Int32 → mV → Option (Unit × mV)) (l0A : Nat) (l1I : Int32) (l2A : Nat) (l3I : Int32) (l4I : Int32) (V : mV) : Option (Unit × mV) :=
  (if (V.fI l0A 1) ≤ l4I then (if (V.fI l0A 1) = (6 : Int32) then (if (5 : Int32) < 0 ∨ mLen l2A ≤ ((5 : Int32)).toNatClampNeg then none else (mLt (mI V l2A ((5 : Int32)) (l3I)) fun V4 => some ((), V4))) else some ((), V)) else (if (5 : Int32) ≤ l4I then (if (V.fI l0A 1) = (6 : Int32) then (if (5 : Int32) < 0 ∨ mLen l2A ≤ ((5 : Int32)).toNatClampNeg then none else (mLt (mI V l2A ((5 : Int32)) (l3I)) fun V8 => some ((), V8))) else some ((), V)) else (mBN (mX3_at F l0A (l1I) (l4I) V) fun v9 => (if l4I < 0 ∨ mLen l2A ≤ (l4I).toNatClampNeg then none else (mLt (mI V l2A (l4I) (v9)) fun V15 => (if l4I < 0 ∨ mLen l2A ≤ (l4I).toNatClampNeg then none else (mLt (l3I - (V15.rI l2A (l4I).toNatClampNeg)) fun x17 => (mLt (l4I + (1 : Int32)) fun x18 => (rec 0 l0A (l1I) l2A (x17) (x18) V15)))))))))
def mX10_loadPoints_go (F : Nat) : Nat → Nat → Nat → Int32 → Nat → Int32 → Int32 → mV → Option (Unit × mV)
  | 0, _, _, _, _, _, _, _ => none
  | k' + 1, lab, l0A, l1I, l2A, l3I, l4I, V => if lab = 0 then mX10_loadPoints_b0 F (mX10_loadPoints_go F k') l0A l1I l2A l3I l4I V else none
def mX10_loadPoints_s (F : Nat) (rec : Nat → Nat → Int32 → Nat → Int32 → Int32 → mV → Option (Unit × mV)) (l0A : Nat) (l1I : Int32) (l2A : Nat) (V : mV) : Option (Unit × mV) :=
  (rec 0 l0A (l1I) l2A ((15 : Int32)) ((0 : Int32)) V)
def mX10_loadPoints (F : Nat) (l0A : Nat) (l1I : Int32) (l2A : Nat) (V : mV) : Option (Unit × mV) := mX10_loadPoints_s F (mX10_loadPoints_go F F) l0A l1I l2A V
set_option maxHeartbeats 4000000 in
set_option maxRecDepth 100000 in
theorem LX10_loadPoints_go {α : Nat → Nat} {F : Nat} {Ln : Nat → Nat} {v : Unit} {V1 : mV} {Φ : (Unit → wPS → Prop)} : ∀ k' : Nat, (∀ (l0A : Nat) (l1I : Int32) (l2A : Nat) (l3I : Int32) (l4I : Int32) (S : wPS) (V : mV) , mRel α S Ln V → mK l0A = 3 → mK l2A = 13 → mX10_loadPoints_go F k' 0 l0A l1I l2A l3I l4I V = some (v, V1) → (∀ S1, mRel α S1 Ln V1 → mFr α S S1 → Φ v S1) → rX10_loadPoints_go F k' 0 (α l0A) l1I (α l2A) l3I l4I S Φ) := by
  intro k'
  induction k' with
  | zero => exact (fun _ _ _ _ _ _ _ _ _ _ h _ => by cases h)
  | succ k' ih =>
    intro l0A l1I l2A l3I l4I S V R sl0A sl2A h k
    rw [mX10_loadPoints_go, if_pos rfl] at h
    rw [rX10_loadPoints_go, if_pos rfl]
    unfold mX10_loadPoints_b0 at h
    unfold rX10_loadPoints_b0
    refine mIf h (by rw [show gEntry_size S (α l0A) = V.fI l0A 1 from (mg_I (i := l0A) R (mO3 sl0A) rfl 1)]) (fun c1 h => ?_) (fun c1 h => ?_)
    · refine mIf h (by rw [show gEntry_size S (α l0A) = V.fI l0A 1 from (mg_I (i := l0A) R (mO3 sl0A) rfl 1)]) (fun c2 h => ?_) (fun c2 h => ?_)
      · refine mGd h (by rw [show S.len (α l2A) = mLen l2A from (mg_len R (mA13 sl2A) rfl)]) (fun c3 h => ?_)
        obtain ⟨V4, eV4, h⟩ := mLt_some h
        refine mU_I eV4 R (mA13 sl2A) rfl rfl rfl (fun S4 R4 F4 => ?_)
        obtain ⟨rfl, rfl⟩ := mRW h
        exact k _ R4 F4
      · obtain ⟨rfl, rfl⟩ := mRW h
        exact k _ R mFr.rf
    · refine mIf h Iff.rfl (fun c4 h => ?_) (fun c4 h => ?_)
      · refine mIf h (by rw [show gEntry_size S (α l0A) = V.fI l0A 1 from (mg_I (i := l0A) R (mO3 sl0A) rfl 1)]) (fun c5 h => ?_) (fun c5 h => ?_)
        · refine mGd h (by rw [show S.len (α l2A) = mLen l2A from (mg_len R (mA13 sl2A) rfl)]) (fun c6 h => ?_)
          obtain ⟨V8, eV8, h⟩ := mLt_some h
          refine mU_I eV8 R (mA13 sl2A) rfl rfl rfl (fun S8 R8 F8 => ?_)
          obtain ⟨rfl, rfl⟩ := mRW h
          exact k _ R8 F8
        · obtain ⟨rfl, rfl⟩ := mRW h
          exact k _ R mFr.rf
      · obtain ⟨v9, hv9, h⟩ := mBN_some h
        refine LX3_at hv9 R sl0A rfl rfl rfl ?_
        refine mGd h (by rw [show S.len (α l2A) = mLen l2A from (mg_len R (mA13 sl2A) rfl)]) (fun c7 h => ?_)
        obtain ⟨V15, eV15, h⟩ := mLt_some h
        refine mU_I eV15 R (mA13 sl2A) rfl rfl rfl (fun S15 R15 F15 => ?_)
        refine mGd h (by rw [show S15.len (α l2A) = mLen l2A from (mg_len R15 (mA13 sl2A) rfl)]) (fun c8 h => ?_)
        refine mLet h (by rw [show S15.rI (α l2A) (l4I).toNatClampNeg = V15.rI l2A (l4I).toNatClampNeg from (mg_rI (i := l2A) R15 (mA13 sl2A) rfl rfl)]) (fun x17 ex17 h => ?_)
        refine mLet h rfl (fun x18 ex18 h => ?_)
        exact ih _ _ _ _ _ _ _ R15 sl0A sl2A h (fun S1 R1 F1 => k S1 R1 (F15.tr F1))
set_option maxHeartbeats 4000000 in
set_option maxRecDepth 100000 in
theorem LX10_loadPoints {α : Nat → Nat} {F : Nat} {S : wPS} {Ln : Nat → Nat} {V V1 : mV} {v : Unit} {Φ : (Unit → wPS → Prop)} {l0Ax : Nat} {l0A : Nat} {l1Ix l1I : Int32} {l2Ax : Nat} {l2A : Nat} (h : mX10_loadPoints F l0A l1I l2A V = some (v, V1)) (R : mRel α S Ln V) (sl0A : mK l0A = 3) (sl2A : mK l2A = 13) (el0A : l0Ax = α l0A) (el1I : l1Ix = l1I) (el2A : l2Ax = α l2A) (k : (∀ S1, mRel α S1 Ln V1 → mFr α S S1 → Φ v S1)) : rX10_loadPoints F l0Ax l1Ix l2Ax S Φ := by
  have el0A := el0A.symm
  subst el0A
  have el1I := el1I.symm
  subst el1I
  have el2A := el2A.symm
  subst el2A
  have ih := LX10_loadPoints_go  (α := α) (F := F) (v := v) (Ln := Ln) (Φ := Φ) (V1 := V1) F
  unfold mX10_loadPoints mX10_loadPoints_s at h
  unfold rX10_loadPoints rX10_loadPoints_s
  exact ih _ _ _ _ _ _ _ R sl0A sl2A h (fun S1 R1 F1 => k S1 R1 F1)
def mX10_rankOf_b0 (F : Nat) (rec : Nat → Nat → Int32 → Int32 → Int32 → Int32 → mV → Option Int32) (l1A : Nat) (l2I : Int32) (l3I : Int32) (V : mV) : Option Int32 :=
  (if (V.fI 7 10) ≤ l3I then some (l2I) else (mLt (l3I + (1 : Int32)) fun x2 => (rec 1 l1A (l2I) (l3I) ((0 : Int32)) (x2) V)))
def mX10_rankOf_b1 (F : Nat) (rec : Nat → Nat → Int32 → Int32 → Int32 → Int32 → mV → Option Int32) (l1A : Nat) (l2I : Int32) (l3I : Int32) (l4I : Int32) (l5I : Int32) (V : mV) : Option Int32 :=
  (if (V.fI 7 10) ≤ l5I then (mLt ((l2I * ((V.fI 7 10) - l3I)) + l4I) fun x4 => (mLt (l3I + (1 : Int32)) fun x5 => (rec 0 l1A (x4) (x5) 0 0 V))) else (if l5I < 0 ∨ mLen l1A ≤ (l5I).toNatClampNeg then none else (if l3I < 0 ∨ mLen l1A ≤ (l3I).toNatClampNeg then none else (if (V.rI l1A (l3I).toNatClampNeg) ≤ (V.rI l1A (l5I).toNatClampNeg) then (mLt (l5I + (1 : Int32)) fun x9 => (rec 1 l1A (l2I) (l3I) (l4I) (x9) V)) else (mLt (l4I + (1 : Int32)) fun x10 => (mLt (l5I + (1 : Int32)) fun x11 => (rec 1 l1A (l2I) (l3I) (x10) (x11) V)))))))
def mX10_rankOf_go (F : Nat) : Nat → Nat → Nat → Int32 → Int32 → Int32 → Int32 → mV → Option Int32
  | 0, _, _, _, _, _, _, _ => none
  | k' + 1, lab, l1A, l2I, l3I, l4I, l5I, V => if lab = 0 then mX10_rankOf_b0 F (mX10_rankOf_go F k') l1A l2I l3I V else if lab = 1 then mX10_rankOf_b1 F (mX10_rankOf_go F k') l1A l2I l3I l4I l5I V else none
def mX10_rankOf_s (F : Nat) (rec : Nat → Nat → Int32 → Int32 → Int32 → Int32 → mV → Option Int32) (l1A : Nat) (V : mV) : Option Int32 :=
  (rec 0 l1A ((0 : Int32)) ((0 : Int32)) 0 0 V)
def mX10_rankOf (F : Nat) (l1A : Nat) (V : mV) : Option Int32 := mX10_rankOf_s F (mX10_rankOf_go F F) l1A V
set_option maxHeartbeats 4000000 in
set_option maxRecDepth 100000 in
theorem LX10_rankOf_go {α : Nat → Nat} {F : Nat} {Ln : Nat → Nat} {v : Int32} {Φ : (Int32 → wPS → Prop)} : ∀ k' : Nat, (∀ (l1A : Nat) (l2I : Int32) (l3I : Int32) (S : wPS) (V : mV) , mRel α S Ln V → mK l1A = 13 → mX10_rankOf_go F k' 0 l1A l2I l3I 0 0 V = some v → (Φ v S) → rX10_rankOf_go F k' 0 (α 7) (α l1A) l2I l3I 0 0 S Φ) ∧ (∀ (l1A : Nat) (l2I : Int32) (l3I : Int32) (l4I : Int32) (l5I : Int32) (S : wPS) (V : mV) , mRel α S Ln V → mK l1A = 13 → mX10_rankOf_go F k' 1 l1A l2I l3I l4I l5I V = some v → (Φ v S) → rX10_rankOf_go F k' 1 (α 7) (α l1A) l2I l3I l4I l5I S Φ) := by
  intro k'
  induction k' with
  | zero => exact ⟨(fun _ _ _ _ _ _ _ h _ => by cases h), (fun _ _ _ _ _ _ _ _ _ h _ => by cases h)⟩
  | succ k' ih =>
    refine ⟨?_, ?_⟩
    · intro l1A l2I l3I S V R sl1A h k
      rw [mX10_rankOf_go, if_pos rfl] at h
      rw [rX10_rankOf_go, if_pos rfl]
      unfold mX10_rankOf_b0 at h
      unfold rX10_rankOf_b0
      refine mIf h (by rw [show gWords_size S (α 7) = V.fI 7 10 from (mg_I (i := 7) R (by decide) rfl 10)]) (fun c1 h => ?_) (fun c1 h => ?_)
      · cases h
        exact k
      · refine mLet h rfl (fun x2 ex2 h => ?_)
        exact ih.2 _ _ _ _ _ _ _ R sl1A h k
    · intro l1A l2I l3I l4I l5I S V R sl1A h k
      rw [mX10_rankOf_go, if_neg (by decide), if_pos rfl] at h
      rw [rX10_rankOf_go, if_neg (by decide), if_pos rfl]
      unfold mX10_rankOf_b1 at h
      unfold rX10_rankOf_b1
      refine mIf h (by rw [show gWords_size S (α 7) = V.fI 7 10 from (mg_I (i := 7) R (by decide) rfl 10)]) (fun c2 h => ?_) (fun c2 h => ?_)
      · refine mLet h (by rw [show gWords_size S (α 7) = V.fI 7 10 from (mg_I (i := 7) R (by decide) rfl 10)]) (fun x4 ex4 h => ?_)
        refine mLet h rfl (fun x5 ex5 h => ?_)
        exact ih.1 _ _ _ _ _ R sl1A h k
      · refine mGd h (by rw [show S.len (α l1A) = mLen l1A from (mg_len R (mA13 sl1A) rfl)]) (fun c3 h => ?_)
        refine mGd h (by rw [show S.len (α l1A) = mLen l1A from (mg_len R (mA13 sl1A) rfl)]) (fun c4 h => ?_)
        refine mIf h (by rw [show S.rI (α l1A) (l3I).toNatClampNeg = V.rI l1A (l3I).toNatClampNeg from (mg_rI (i := l1A) R (mA13 sl1A) rfl rfl), show S.rI (α l1A) (l5I).toNatClampNeg = V.rI l1A (l5I).toNatClampNeg from (mg_rI (i := l1A) R (mA13 sl1A) rfl rfl)]) (fun c5 h => ?_) (fun c5 h => ?_)
        · refine mLet h rfl (fun x9 ex9 h => ?_)
          exact ih.2 _ _ _ _ _ _ _ R sl1A h k
        · refine mLet h rfl (fun x10 ex10 h => ?_)
          refine mLet h rfl (fun x11 ex11 h => ?_)
          exact ih.2 _ _ _ _ _ _ _ R sl1A h k
set_option maxHeartbeats 4000000 in
set_option maxRecDepth 100000 in
theorem LX10_rankOf {α : Nat → Nat} {F : Nat} {S : wPS} {Ln : Nat → Nat} {V : mV} {v : Int32} {Φ : (Int32 → wPS → Prop)} {l0Ax : Nat} {l1Ax : Nat} {l1A : Nat} (h : mX10_rankOf F l1A V = some v) (R : mRel α S Ln V) (sl1A : mK l1A = 13) (el0A : l0Ax = α 7) (el1A : l1Ax = α l1A) (k : (Φ v S)) : rX10_rankOf F l0Ax l1Ax S Φ := by
  have el0A := el0A.symm
  subst el0A
  have el1A := el1A.symm
  subst el1A
  have ih := LX10_rankOf_go  (α := α) (F := F) (v := v) (Ln := Ln) (Φ := Φ) F
  unfold mX10_rankOf mX10_rankOf_s at h
  unfold rX10_rankOf rX10_rankOf_s
  exact ih.1 _ _ _ _ _ R sl1A h k
def mX10_codeOf_b0 (F : Nat) (rec : Nat → Nat → Int32 → Int32 → Int32 → mV → Option Int32) (l0A : Nat) (l1I : Int32) (l2I : Int32) (l3I : Int32) (V : mV) : Option Int32 :=
  (if l1I ≤ l3I then some (l2I) else (if l3I < 0 ∨ mLen l0A ≤ (l3I).toNatClampNeg then none else (mLt ((l2I * (6 : Int32)) + (V.rI l0A (l3I).toNatClampNeg)) fun x3 => (mLt (l3I + (1 : Int32)) fun x4 => (rec 0 l0A (l1I) (x3) (x4) V)))))
def mX10_codeOf_go (F : Nat) : Nat → Nat → Nat → Int32 → Int32 → Int32 → mV → Option Int32
  | 0, _, _, _, _, _, _ => none
  | k' + 1, lab, l0A, l1I, l2I, l3I, V => if lab = 0 then mX10_codeOf_b0 F (mX10_codeOf_go F k') l0A l1I l2I l3I V else none
def mX10_codeOf_s (F : Nat) (rec : Nat → Nat → Int32 → Int32 → Int32 → mV → Option Int32) (l0A : Nat) (l1I : Int32) (V : mV) : Option Int32 :=
  (rec 0 l0A (l1I) ((0 : Int32)) ((0 : Int32)) V)
def mX10_codeOf (F : Nat) (l0A : Nat) (l1I : Int32) (V : mV) : Option Int32 := mX10_codeOf_s F (mX10_codeOf_go F F) l0A l1I V
set_option maxHeartbeats 4000000 in
set_option maxRecDepth 100000 in
theorem LX10_codeOf_go {α : Nat → Nat} {F : Nat} {Ln : Nat → Nat} {v : Int32} {Φ : (Int32 → wPS → Prop)} : ∀ k' : Nat, (∀ (l0A : Nat) (l1I : Int32) (l2I : Int32) (l3I : Int32) (S : wPS) (V : mV) , mRel α S Ln V → mK l0A = 13 → mX10_codeOf_go F k' 0 l0A l1I l2I l3I V = some v → (Φ v S) → rX10_codeOf_go F k' 0 (α l0A) l1I l2I l3I S Φ) := by
  intro k'
  induction k' with
  | zero => exact (fun _ _ _ _ _ _ _ _ h _ => by cases h)
  | succ k' ih =>
    intro l0A l1I l2I l3I S V R sl0A h k
    rw [mX10_codeOf_go, if_pos rfl] at h
    rw [rX10_codeOf_go, if_pos rfl]
    unfold mX10_codeOf_b0 at h
    unfold rX10_codeOf_b0
    refine mIf h Iff.rfl (fun c1 h => ?_) (fun c1 h => ?_)
    · cases h
      exact k
    · refine mGd h (by rw [show S.len (α l0A) = mLen l0A from (mg_len R (mA13 sl0A) rfl)]) (fun c2 h => ?_)
      refine mLet h (by rw [show S.rI (α l0A) (l3I).toNatClampNeg = V.rI l0A (l3I).toNatClampNeg from (mg_rI (i := l0A) R (mA13 sl0A) rfl rfl)]) (fun x3 ex3 h => ?_)
      refine mLet h rfl (fun x4 ex4 h => ?_)
      exact ih _ _ _ _ _ _ R sl0A h k
set_option maxHeartbeats 4000000 in
set_option maxRecDepth 100000 in
theorem LX10_codeOf {α : Nat → Nat} {F : Nat} {S : wPS} {Ln : Nat → Nat} {V : mV} {v : Int32} {Φ : (Int32 → wPS → Prop)} {l0Ax : Nat} {l0A : Nat} {l1Ix l1I : Int32} (h : mX10_codeOf F l0A l1I V = some v) (R : mRel α S Ln V) (sl0A : mK l0A = 13) (el0A : l0Ax = α l0A) (el1I : l1Ix = l1I) (k : (Φ v S)) : rX10_codeOf F l0Ax l1Ix S Φ := by
  have el0A := el0A.symm
  subst el0A
  have el1I := el1I.symm
  subst el1I
  have ih := LX10_codeOf_go  (α := α) (F := F) (v := v) (Ln := Ln) (Φ := Φ) F
  unfold mX10_codeOf mX10_codeOf_s at h
  unfold rX10_codeOf rX10_codeOf_s
  exact ih _ _ _ _ _ _ R sl0A h k
def mX10_firstWord (F : Nat) (l0A : Nat) (V : mV) : Option Int32 :=
  (if (V.fI l0A 6) ≤ 0 then some ((1 : Int32)) else (mBN (mX3_at F l0A ((0 : Int32)) ((0 : Int32)) V) fun v2 => some (v2)))
set_option maxHeartbeats 4000000 in
set_option maxRecDepth 100000 in
theorem LX10_firstWord {α : Nat → Nat} {F : Nat} {S : wPS} {Ln : Nat → Nat} {V : mV} {v : Int32} {Φ : (Int32 → wPS → Prop)} {l0Ax : Nat} {l0A : Nat} (h : mX10_firstWord F l0A V = some v) (R : mRel α S Ln V) (sl0A : mK l0A = 3) (el0A : l0Ax = α l0A) (k : (Φ v S)) : rX10_firstWord F l0Ax S Φ := by
  have el0A := el0A.symm
  subst el0A
  unfold mX10_firstWord at h
  unfold rX10_firstWord
  refine mIf h (by rw [show gEntry_itemCount S (α l0A) = V.fI l0A 6 from (mg_I (i := l0A) R (mO3 sl0A) rfl 6)]) (fun c1 h => ?_) (fun c1 h => ?_)
  · cases h
    exact k
  · obtain ⟨v2, hv2, h⟩ := mBN_some h
    refine LX3_at hv2 R sl0A rfl rfl rfl ?_
    cases h
    exact k
def mX10_secondWord (F : Nat) (l0A : Nat) (V : mV) : Option Int32 :=
  (if (V.fI l0A 6) ≤ 0 then some ((1 : Int32)) else (mBN (mX3_at F l0A ((0 : Int32)) ((1 : Int32)) V) fun v2 => some (v2)))
set_option maxHeartbeats 4000000 in
set_option maxRecDepth 100000 in
theorem LX10_secondWord {α : Nat → Nat} {F : Nat} {S : wPS} {Ln : Nat → Nat} {V : mV} {v : Int32} {Φ : (Int32 → wPS → Prop)} {l0Ax : Nat} {l0A : Nat} (h : mX10_secondWord F l0A V = some v) (R : mRel α S Ln V) (sl0A : mK l0A = 3) (el0A : l0Ax = α l0A) (k : (Φ v S)) : rX10_secondWord F l0Ax S Φ := by
  have el0A := el0A.symm
  subst el0A
  unfold mX10_secondWord at h
  unfold rX10_secondWord
  refine mIf h (by rw [show gEntry_itemCount S (α l0A) = V.fI l0A 6 from (mg_I (i := l0A) R (mO3 sl0A) rfl 6)]) (fun c1 h => ?_) (fun c1 h => ?_)
  · cases h
    exact k
  · obtain ⟨v2, hv2, h⟩ := mBN_some h
    refine LX3_at hv2 R sl0A rfl rfl rfl ?_
    cases h
    exact k
def mX10_beyondWords (F : Nat) (l0A : Nat) (V : mV) : Option Int32 :=
  some (((2 : Int32) <<< ((V.fI l0A 8) &&& 31)))
set_option maxHeartbeats 4000000 in
set_option maxRecDepth 100000 in
theorem LX10_beyondWords {α : Nat → Nat} {F : Nat} {S : wPS} {Ln : Nat → Nat} {V : mV} {v : Int32} {Φ : (Int32 → wPS → Prop)} {l0Ax : Nat} {l0A : Nat} (h : mX10_beyondWords F l0A V = some v) (R : mRel α S Ln V) (sl0A : mK l0A = 3) (el0A : l0Ax = α l0A) (k : (Φ v S)) : rX10_beyondWords F l0Ax S Φ := by
  have el0A := el0A.symm
  subst el0A
  unfold mX10_beyondWords at h
  unfold rX10_beyondWords
  cases h
  rw [show gEntry_boundNow S (α l0A) = V.fI l0A 8 from (mg_I (i := l0A) R (mO3 sl0A) rfl 8)]
  exact k
def mX10_addNext (F : Nat) (l1I : Int32) (V : mV) : Option (Unit × mV) :=
  (if (96 : Int32) ≤ (V.fI 7 9) then some ((), V) else (if l1I < (1 : Int32) then some ((), V) else (if (256 : Int32) ≤ l1I then some ((), V) else (if (V.fI 7 9) < 0 ∨ 96 ≤ ((V.fI 7 9)).toNatClampNeg then none else (mLt (mI V 83 ((V.fI 7 9)) (l1I)) fun V5 => (mLt (mF V5 7 9 (((V5.fI 7 9) + (1 : Int32)))) fun V6 => some ((), V6)))))))
set_option maxHeartbeats 4000000 in
set_option maxRecDepth 100000 in
theorem LX10_addNext {α : Nat → Nat} {F : Nat} {S : wPS} {Ln : Nat → Nat} {V V1 : mV} {v : Unit} {Φ : (Unit → wPS → Prop)} {l0Ax : Nat} {l1Ix l1I : Int32} (h : mX10_addNext F l1I V = some (v, V1)) (R : mRel α S Ln V) (el0A : l0Ax = α 7) (el1I : l1Ix = l1I) (k : (∀ S1, mRel α S1 Ln V1 → mFr α S S1 → Φ v S1)) : rX10_addNext F l0Ax l1Ix S Φ := by
  have el0A := el0A.symm
  subst el0A
  have el1I := el1I.symm
  subst el1I
  unfold mX10_addNext at h
  unfold rX10_addNext
  refine mIf h (by rw [show gWords_nextCount S (α 7) = V.fI 7 9 from (mg_I (i := 7) R (by decide) rfl 9)]) (fun c1 h => ?_) (fun c1 h => ?_)
  · obtain ⟨rfl, rfl⟩ := mRW h
    exact k _ R mFr.rf
  · refine mIf h Iff.rfl (fun c2 h => ?_) (fun c2 h => ?_)
    · obtain ⟨rfl, rfl⟩ := mRW h
      exact k _ R mFr.rf
    · refine mIf h Iff.rfl (fun c3 h => ?_) (fun c3 h => ?_)
      · obtain ⟨rfl, rfl⟩ := mRW h
        exact k _ R mFr.rf
      · refine mGd h (by rw [show S.len (wkAd (gWords_next S (α 7))) = 96 from (mg_len (i := 83) R (mA13 rfl) (mg_A (t := 83) R rfl rfl)), show gWords_nextCount S (α 7) = V.fI 7 9 from (mg_I (i := 7) R (by decide) rfl 9)]) (fun c4 h => ?_)
        obtain ⟨V5, eV5, h⟩ := mLt_some h
        refine mU_I eV5 R (mA13 rfl) (mg_A (t := 83) R rfl rfl) (by rw [show gWords_nextCount S (α 7) = V.fI 7 9 from (mg_I (i := 7) R (by decide) rfl 9)]) rfl (fun S5 R5 F5 => ?_)
        obtain ⟨V6, eV6, h⟩ := mLt_some h
        refine mU_F eV6 R5 (by decide) rfl (by rw [show gWords_nextCount S5 (α 7) = V5.fI 7 9 from (mg_I (i := 7) R5 (by decide) rfl 9)]) (fun S6 R6 F6 => ?_)
        obtain ⟨rfl, rfl⟩ := mRW h
        exact k _ R6 (F5.tr F6)
def mX10_lettersOf_b0 (F : Nat) (rec : Nat → Int32 → Int32 → Option Int32) (l1I : Int32) (l2I : Int32) : Option Int32 :=
  (if l2I ≤ 0 then some (l1I) else (mLt (l1I + (1 : Int32)) fun x2 => (mLt (l2I >>> ((1 : Int32) &&& 31)) fun x3 => (rec 0 (x2) (x3)))))
def mX10_lettersOf_go (F : Nat) : Nat → Nat → Int32 → Int32 → Option Int32
  | 0, _, _, _ => none
  | k' + 1, lab, l1I, l2I => if lab = 0 then mX10_lettersOf_b0 F (mX10_lettersOf_go F k') l1I l2I  else none
def mX10_lettersOf_s (F : Nat) (rec : Nat → Int32 → Int32 → Option Int32) (l0I : Int32) : Option Int32 :=
  (mLt (l0I >>> ((1 : Int32) &&& 31)) fun x4 => (rec 0 ((0 : Int32)) (x4)))
def mX10_lettersOf (F : Nat) (l0I : Int32) : Option Int32 := mX10_lettersOf_s F (mX10_lettersOf_go F F) l0I 
set_option maxHeartbeats 4000000 in
set_option maxRecDepth 100000 in
theorem LX10_lettersOf_go {F : Nat} {v : Int32} {Φ : (Int32 → wPS → Prop)} : ∀ k' : Nat, (∀ (l1I : Int32) (l2I : Int32) (S : wPS) , mX10_lettersOf_go F k' 0 l1I l2I  = some v → (Φ v S) → rX10_lettersOf_go F k' 0 l1I l2I S Φ) := by
  intro k'
  induction k' with
  | zero => exact (fun _ _ _ h _ => by cases h)
  | succ k' ih =>
    intro l1I l2I S h k
    rw [mX10_lettersOf_go, if_pos rfl] at h
    rw [rX10_lettersOf_go, if_pos rfl]
    unfold mX10_lettersOf_b0 at h
    unfold rX10_lettersOf_b0
    refine mIf h Iff.rfl (fun c1 h => ?_) (fun c1 h => ?_)
    · cases h
      exact k
    · refine mLet h rfl (fun x2 ex2 h => ?_)
      refine mLet h rfl (fun x3 ex3 h => ?_)
      exact ih _ _ _ h k
set_option maxHeartbeats 4000000 in
set_option maxRecDepth 100000 in
theorem LX10_lettersOf {F : Nat} {S : wPS} {v : Int32} {Φ : (Int32 → wPS → Prop)} {l0Ix l0I : Int32} (h : mX10_lettersOf F l0I  = some v) (el0I : l0Ix = l0I) (k : (Φ v S)) : rX10_lettersOf F l0Ix S Φ := by
  have el0I := el0I.symm
  subst el0I
  have ih := LX10_lettersOf_go  (F := F) (v := v) (Φ := Φ) F
  unfold mX10_lettersOf mX10_lettersOf_s at h
  unfold rX10_lettersOf rX10_lettersOf_s
  refine mLet h rfl (fun x4 ex4 h => ?_)
  exact ih _ _ _ h k
def mX11_entries (F : Nat) (V : mV) : Option Int32 :=
  some ((V.fI 0 2))
set_option maxHeartbeats 4000000 in
set_option maxRecDepth 100000 in
theorem LX11_entries {α : Nat → Nat} {F : Nat} {S : wPS} {Ln : Nat → Nat} {V : mV} {v : Int32} {Φ : (Int32 → wPS → Prop)} {l0Ax : Nat} (h : mX11_entries F V = some v) (R : mRel α S Ln V) (el0A : l0Ax = α 0) (k : (Φ v S)) : rX11_entries F l0Ax S Φ := by
  have el0A := el0A.symm
  subst el0A
  unfold mX11_entries at h
  unfold rX11_entries
  cases h
  rw [show gWitnessworks_entryCount S (α 0) = V.fI 0 2 from (mg_I (i := 0) R (by decide) rfl 2)]
  exact k
def mX11_person (F : Nat) (Ln : Nat → Nat) (V : mV) : Option ((String ⊕ Int32) × (Nat → Nat) × mV) :=
  (if (V.fI 0 13) < (6 : Int32) then (mLt (mF V 0 13 (((V.fI 0 13) + (1 : Int32)))) fun V2 => some ((.inr (((V2.fI 0 13) - (1 : Int32)))), Ln, V2)) else (mTh Ln "java/lang/IllegalStateException" V))
set_option maxHeartbeats 4000000 in
set_option maxRecDepth 100000 in
theorem MX11_person {F : Nat} {Ln Ln1 : Nat → Nat} {V V1 : mV} {v : (String ⊕ Int32)} (h : mX11_person F Ln V = some (v, Ln1, V1)) : mP Ln1 ≤ mP Ln := by
  unfold mX11_person at h
  rcases mIf_some h with ⟨_, h⟩ | ⟨_, h⟩
  · obtain ⟨_, _, h⟩ := mLt_some h
    cases h
    exact Nat.le_refl _
  · obtain ⟨rfl, rfl, rfl, hth⟩ := mTh_some h
    omega
set_option maxHeartbeats 4000000 in
set_option maxRecDepth 100000 in
theorem LX11_person {α : Nat → Nat} {F : Nat} {S : wPS} {Ln Ln1 : Nat → Nat} {V V1 : mV} {v : (String ⊕ Int32)} {Φ : (Int32 → wPS → Prop)} {Ψ : String → wPS → Prop} {l0Ax : Nat} {k0 n0 : Nat} (h : mX11_person F Ln V = some (v, Ln1, V1)) (R : mRel α S Ln V) (el0A : l0Ax = α 0) (hk : (mP Ln - mP Ln1) / 16 ≤ k0) (hn : mP Ln - mP Ln1 ≤ n0) (k : (∀ S1, mRel α S1 Ln1 V1 → mFr α S S1 → mOut Φ Ψ v S1)) : rX11_person F k0 n0 l0Ax S Φ Ψ := by
  have el0A := el0A.symm
  subst el0A
  unfold mX11_person at h
  unfold rX11_person
  refine mIf h (by rw [show gWitnessworks_personCount S (α 0) = V.fI 0 13 from (mg_I (i := 0) R (by decide) rfl 13)]) (fun c1 h => ?_) (fun c1 h => ?_)
  · obtain ⟨V2, eV2, h⟩ := mLt_some h
    refine mU_F eV2 R (by decide) rfl (by rw [show gWitnessworks_personCount S (α 0) = V.fI 0 13 from (mg_I (i := 0) R (by decide) rfl 13)]) (fun S2 R2 F2 => ?_)
    obtain ⟨rfl, rfl, rfl⟩ := mRA3 h
    rw [show gWitnessworks_personCount S2 (α 0) = V2.fI 0 13 from (mg_I (i := 0) R2 (by decide) rfl 13)]
    exact k _ R2 F2
  · obtain ⟨rfl, rfl, rfl, hth⟩ := mTh_some h
    exact ⟨by omega, by omega, k _ (mRel_th R) mFr.rf⟩
theorem LX11_person_E {α : Nat → Nat} {F : Nat} {S : wPS} {Ln Ln1 : Nat → Nat} {V V1 : mV} {e : String} {Φ : (Int32 → wPS → Prop)} {Ψ : String → wPS → Prop} {l0Ax : Nat} {k0 n0 : Nat} (h : mX11_person F Ln V = some (.inl e, Ln1, V1)) (R : mRel α S Ln V) (el0A : l0Ax = α 0) (hk : (mP Ln - mP Ln1) / 16 ≤ k0) (hn : mP Ln - mP Ln1 ≤ n0) (k : ∀ S1, mRel α S1 Ln1 V1 → mFr α S S1 → Ψ e S1) : rX11_person F k0 n0 l0Ax S Φ Ψ := LX11_person h R el0A hk hn k
theorem LX11_person_V {α : Nat → Nat} {F : Nat} {S : wPS} {Ln Ln1 : Nat → Nat} {V V1 : mV} {a : Int32} {Φ : (Int32 → wPS → Prop)} {Ψ : String → wPS → Prop} {l0Ax : Nat} {k0 n0 : Nat} (h : mX11_person F Ln V = some (.inr a, Ln1, V1)) (R : mRel α S Ln V) (el0A : l0Ax = α 0) (hk : (mP Ln - mP Ln1) / 16 ≤ k0) (hn : mP Ln - mP Ln1 ≤ n0) (k : ∀ S1, mRel α S1 Ln1 V1 → mFr α S S1 → Φ a S1) : rX11_person F k0 n0 l0Ax S Φ Ψ := LX11_person h R el0A hk hn k
def mX11_wipe (F : Nat) (V : mV) : Option (Int32 × mV) :=
  (mLt (V.fI 2048 1) fun x1 => (mBW (mX9_clear F 2048 V) fun v2 V3 => some (x1, V3)))
set_option maxHeartbeats 4000000 in
set_option maxRecDepth 100000 in
theorem LX11_wipe {α : Nat → Nat} {F : Nat} {S : wPS} {Ln : Nat → Nat} {V V1 : mV} {v : Int32} {Φ : (Int32 → wPS → Prop)} {l0Ax : Nat} (h : mX11_wipe F V = some (v, V1)) (R : mRel α S Ln V) (el0A : l0Ax = α 0) (k : (∀ S1, mRel α S1 Ln V1 → mFr α S S1 → Φ v S1)) : rX11_wipe F l0Ax S Φ := by
  have el0A := el0A.symm
  subst el0A
  unfold mX11_wipe at h
  unfold rX11_wipe
  refine mLet h (by rw [show gRow_count S (wkAd (gWitnessworks_typed S (α 0))) = V.fI 2048 1 from (mg_I (i := 2048) R (by decide) (mg_A (t := 2048) R rfl rfl) 1)]) (fun x1 ex1 h => ?_)
  obtain ⟨v2, V3, hv2, h⟩ := mBW_some h
  refine LX9_clear hv2 R rfl (mg_A (t := 2048) R rfl rfl) (fun S3 R3 F3 => ?_)
  obtain ⟨rfl, rfl⟩ := mRW h
  exact k _ R3 F3
def mX11_canHaveSize (F : Nat) (l0I : Int32) (l1I : Int32) : Option Int32 :=
  (if l0I < 0 ∨ 12 ≤ (l0I).toNatClampNeg then none else (if l1I < (wkTab 0 (l0I).toNatClampNeg) then some ((0 : Int32)) else (if l0I < 0 ∨ 12 ≤ (l0I).toNatClampNeg then none else (if (wkTab 1 (l0I).toNatClampNeg) < l1I then some ((0 : Int32)) else some ((1 : Int32))))))
set_option maxHeartbeats 4000000 in
set_option maxRecDepth 100000 in
theorem LX11_canHaveSize {F : Nat} {S : wPS} {v : Int32} {Φ : (Int32 → wPS → Prop)} {l0Ix l0I : Int32} {l1Ix l1I : Int32} (h : mX11_canHaveSize F l0I l1I  = some v) (el0I : l0Ix = l0I) (el1I : l1Ix = l1I) (k : (Φ v S)) : rX11_canHaveSize F l0Ix l1Ix S Φ := by
  have el0I := el0I.symm
  subst el0I
  have el1I := el1I.symm
  subst el1I
  unfold mX11_canHaveSize at h
  unfold rX11_canHaveSize
  refine mGd h Iff.rfl (fun c1 h => ?_)
  refine mIf h Iff.rfl (fun c2 h => ?_) (fun c2 h => ?_)
  · cases h
    exact k
  · refine mGd h Iff.rfl (fun c3 h => ?_)
    refine mIf h Iff.rfl (fun c4 h => ?_) (fun c4 h => ?_)
    · cases h
      exact k
    · cases h
      exact k
def mX11_canHaveBound (F : Nat) (l0I : Int32) (l1I : Int32) : Option Int32 :=
  (if l0I < 0 ∨ 12 ≤ (l0I).toNatClampNeg then none else (if l1I < (wkTab 2 (l0I).toNatClampNeg) then some ((0 : Int32)) else (if l0I < 0 ∨ 12 ≤ (l0I).toNatClampNeg then none else (if (wkTab 3 (l0I).toNatClampNeg) < l1I then some ((0 : Int32)) else some ((1 : Int32))))))
set_option maxHeartbeats 4000000 in
set_option maxRecDepth 100000 in
theorem LX11_canHaveBound {F : Nat} {S : wPS} {v : Int32} {Φ : (Int32 → wPS → Prop)} {l0Ix l0I : Int32} {l1Ix l1I : Int32} (h : mX11_canHaveBound F l0I l1I  = some v) (el0I : l0Ix = l0I) (el1I : l1Ix = l1I) (k : (Φ v S)) : rX11_canHaveBound F l0Ix l1Ix S Φ := by
  have el0I := el0I.symm
  subst el0I
  have el1I := el1I.symm
  subst el1I
  unfold mX11_canHaveBound at h
  unfold rX11_canHaveBound
  refine mGd h Iff.rfl (fun c1 h => ?_)
  refine mIf h Iff.rfl (fun c2 h => ?_) (fun c2 h => ?_)
  · cases h
    exact k
  · refine mGd h Iff.rfl (fun c3 h => ?_)
    refine mIf h Iff.rfl (fun c4 h => ?_) (fun c4 h => ?_)
    · cases h
      exact k
    · cases h
      exact k
end
