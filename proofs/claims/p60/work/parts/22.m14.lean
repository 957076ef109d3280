/-! LIFTED BY PROGRAM (lift.py): X8_isBaseOf, X8_readPrime, X8_judgeProduct, X8_divide, X8_makeFree, X8_changesAt, X8_areParts, X8_areOrdered. -/
section
def mX8_isBaseOf_b0 (F : Nat) (rec : Nat → Int32 → Int32 → Int32 → Int32 → Option Int32) (l0I : Int32) (l1I : Int32) (l2I : Int32) (l3I : Int32) : Option Int32 :=
  (if (40 : Int32) ≤ l3I then some ((1 : Int32)) else (if l2I ≤ (1 : Int32) then some ((1 : Int32)) else (mBN (mX8_leastDivisor F (l2I)) fun v3 => (if v3 < (2 : Int32) then some ((0 : Int32)) else (if v3 = 0 then none else (mBN (mX11_restOfPower F (l0I) (((l1I - (1 : Int32)) / v3)) (l1I)) fun v10 => (if v10 = (1 : Int32) then some ((0 : Int32)) else (mBN (mX8_withoutDivisor F (l2I) (v3)) fun v16 => (mLt (l3I + (1 : Int32)) fun x21 => (rec 0 (l0I) (l1I) (v16) (x21)))))))))))
def mX8_isBaseOf_go (F : Nat) : Nat → Nat → Int32 → Int32 → Int32 → Int32 → Option Int32
  | 0, _, _, _, _, _ => none
  | k' + 1, lab, l0I, l1I, l2I, l3I => if lab = 0 then mX8_isBaseOf_b0 F (mX8_isBaseOf_go F k') l0I l1I l2I l3I  else none
def mX8_isBaseOf_s (F : Nat) (rec : Nat → Int32 → Int32 → Int32 → Int32 → Option Int32) (l0I : Int32) (l1I : Int32) : Option Int32 :=
  (mLt (l1I - (1 : Int32)) fun x22 => (rec 0 (l0I) (l1I) (x22) ((0 : Int32))))
def mX8_isBaseOf (F : Nat) (l0I : Int32) (l1I : Int32) : Option Int32 := mX8_isBaseOf_s F (mX8_isBaseOf_go F F) l0I l1I 
set_option maxHeartbeats 4000000 in
set_option maxRecDepth 100000 in
theorem LX8_isBaseOf_go {F : Nat} {v : Int32} {Φ : (Int32 → wPS → Prop)} : ∀ k' : Nat, (∀ (l0I : Int32) (l1I : Int32) (l2I : Int32) (l3I : Int32) (S : wPS) , mX8_isBaseOf_go F k' 0 l0I l1I l2I l3I  = some v → (Φ v S) → rX8_isBaseOf_go F k' 0 l0I l1I l2I l3I S Φ) := by
  intro k'
  induction k' with
  | zero => exact (fun _ _ _ _ _ h _ => by cases h)
  | succ k' ih =>
    intro l0I l1I l2I l3I S h k
    rw [mX8_isBaseOf_go, if_pos rfl] at h
    rw [rX8_isBaseOf_go, if_pos rfl]
    unfold mX8_isBaseOf_b0 at h
    unfold rX8_isBaseOf_b0
    refine mIf h Iff.rfl (fun c1 h => ?_) (fun c1 h => ?_)
    · cases h
      exact k
    · refine mIf h Iff.rfl (fun c2 h => ?_) (fun c2 h => ?_)
      · cases h
        exact k
      · obtain ⟨v3, hv3, h⟩ := mBN_some h
        refine LX8_leastDivisor hv3 rfl ?_
        refine mIf h Iff.rfl (fun c3 h => ?_) (fun c3 h => ?_)
        · cases h
          exact k
        · refine mGd h Iff.rfl (fun c4 h => ?_)
          obtain ⟨v10, hv10, h⟩ := mBN_some h
          refine LX11_restOfPower hv10 rfl rfl rfl ?_
          refine mIf h Iff.rfl (fun c5 h => ?_) (fun c5 h => ?_)
          · cases h
            exact k
          · obtain ⟨v16, hv16, h⟩ := mBN_some h
            refine LX8_withoutDivisor hv16 rfl rfl ?_
            refine mLet h rfl (fun x21 ex21 h => ?_)
            exact ih _ _ _ _ _ h k
set_option maxHeartbeats 4000000 in
set_option maxRecDepth 100000 in
theorem LX8_isBaseOf {F : Nat} {S : wPS} {v : Int32} {Φ : (Int32 → wPS → Prop)} {l0Ix l0I : Int32} {l1Ix l1I : Int32} (h : mX8_isBaseOf F l0I l1I  = some v) (el0I : l0Ix = l0I) (el1I : l1Ix = l1I) (k : (Φ v S)) : rX8_isBaseOf F l0Ix l1Ix S Φ := by
  have el0I := el0I.symm
  subst el0I
  have el1I := el1I.symm
  subst el1I
  have ih := LX8_isBaseOf_go  (F := F) (v := v) (Φ := Φ) F
  unfold mX8_isBaseOf mX8_isBaseOf_s at h
  unfold rX8_isBaseOf rX8_isBaseOf_s
  refine mLet h rfl (fun x22 ex22 h => ?_)
  exact ih _ _ _ _ _ h k
def mX8_readPrime_b0 (F : Nat) (rc : (Nat → Nat) → Nat → Int32 → Int32 → Int32 → mV → Option Int32) (rec : Nat → (Nat → Nat) → Nat → Int32 → Int32 → Int32 → Int32 → Int32 → Int32 → Int32 → Int32 → mV → Option Int32) (Ln : Nat → Nat) (l0A : Nat) (l2I : Int32) (l3I : Int32) (l4I : Int32) (l5I : Int32) (l6I : Int32) (l7I : Int32) (l8I : Int32) (l9I : Int32) (V : mV) : Option Int32 :=
  (if (40 : Int32) ≤ l9I then (if l8I = (1 : Int32) then some (l6I) else some ((-1 : Int32))) else (if l8I = (1 : Int32) then (if l8I = (1 : Int32) then some (l6I) else some ((-1 : Int32))) else (if (V.fI l0A 1) ≤ l6I then (if l8I = (1 : Int32) then some (l6I) else some ((-1 : Int32))) else (mBN (mX9_at F Ln l0A (l6I) V) fun v7 => (if v7 ≤ l7I then some ((-1 : Int32)) else (if v7 = 0 then none else (if (l8I - l8I / v7 * v7) = 0 then (if l3I = 0 then (mBN (rc Ln l0A (l6I) ((l2I + (1 : Int32))) (l3I) V) fun v16 => (if 0 ≤ v16 then (mBN (mX8_withoutDivisor F (l8I) (v7)) fun v22 => (mLt (l9I + (1 : Int32)) fun x27 => (rec 0 Ln l0A (l2I) (l3I) (l4I) (l5I) (v16) (v7) (v22) (x27) V))) else some ((-1 : Int32)))) else (if v7 = 0 then none else (mBN (mX11_restOfPower F (l5I) (((l4I - (1 : Int32)) / v7)) (l4I)) fun v29 => (if v29 = (1 : Int32) then some ((-1 : Int32)) else (mBN (rc Ln l0A (l6I) ((l2I + (1 : Int32))) (l3I) V) fun v35 => (if 0 ≤ v35 then (mBN (mX8_withoutDivisor F (l8I) (v7)) fun v41 => (mLt (l9I + (1 : Int32)) fun x46 => (rec 0 Ln l0A (l2I) (l3I) (l4I) (l5I) (v35) (v7) (v41) (x46) V))) else some ((-1 : Int32)))))))) else some ((-1 : Int32)))))))))
def mX8_readPrime_go (F : Nat) (rc : (Nat → Nat) → Nat → Int32 → Int32 → Int32 → mV → Option Int32) : Nat → Nat → (Nat → Nat) → Nat → Int32 → Int32 → Int32 → Int32 → Int32 → Int32 → Int32 → Int32 → mV → Option Int32
  | 0, _, _, _, _, _, _, _, _, _, _, _, _ => none
  | k' + 1, lab, Ln, l0A, l2I, l3I, l4I, l5I, l6I, l7I, l8I, l9I, V => if lab = 0 then mX8_readPrime_b0 F rc (mX8_readPrime_go F rc k') Ln l0A l2I l3I l4I l5I l6I l7I l8I l9I V else none
def mX8_readPrime_s (F : Nat) (rc : (Nat → Nat) → Nat → Int32 → Int32 → Int32 → mV → Option Int32) (rec : Nat → (Nat → Nat) → Nat → Int32 → Int32 → Int32 → Int32 → Int32 → Int32 → Int32 → Int32 → mV → Option Int32) (Ln : Nat → Nat) (l0A : Nat) (l1I : Int32) (l2I : Int32) (l3I : Int32) (V : mV) : Option Int32 :=
  (mBN (mX9_at F Ln l0A (l1I) V) fun v47 => (if (V.fI l0A 1) ≤ l1I then some ((-1 : Int32)) else (if v47 < (2 : Int32) then some ((-1 : Int32)) else (if l2I ≤ (40 : Int32) then (if v47 = (2 : Int32) then some ((l1I + (1 : Int32))) else (mBN (mX9_at F Ln l0A ((l1I + (1 : Int32))) V) fun v56 => (if v56 < (1 : Int32) then some ((-1 : Int32)) else (if v47 ≤ v56 then some ((-1 : Int32)) else (if l3I = 0 then (mLt (l1I + (2 : Int32)) fun x64 => (mLt (v47 - (1 : Int32)) fun x65 => (rec 0 Ln l0A (l2I) (l3I) (v47) (v56) (x64) ((1 : Int32)) (x65) ((0 : Int32)) V))) else (mBN (mX11_restOfPower F (v56) ((v47 - (1 : Int32))) (v47)) fun v66 => (if v66 = (1 : Int32) then (mLt (l1I + (2 : Int32)) fun x72 => (mLt (v47 - (1 : Int32)) fun x73 => (rec 0 Ln l0A (l2I) (l3I) (v47) (v56) (x72) ((1 : Int32)) (x73) ((0 : Int32)) V))) else some ((-1 : Int32))))))))) else some ((-1 : Int32))))))
def mX8_readPrime_a (F : Nat) (rc : (Nat → Nat) → Nat → Int32 → Int32 → Int32 → mV → Option Int32) (Ln : Nat → Nat) (l0A : Nat) (l1I : Int32) (l2I : Int32) (l3I : Int32) (V : mV) : Option Int32 := mX8_readPrime_s F rc (mX8_readPrime_go F rc F) Ln l0A l1I l2I l3I V
def mX8_readPrime (F : Nat) : Nat → (Nat → Nat) → Nat → Int32 → Int32 → Int32 → mV → Option Int32
  | 0, _, _, _, _, _, _ => none
  | j + 1, Ln, l0A, l1I, l2I, l3I, V => mX8_readPrime_a F (mX8_readPrime F j) Ln l0A l1I l2I l3I V
set_option maxHeartbeats 4000000 in
set_option maxRecDepth 100000 in
theorem LX8_readPrime_go {α : Nat → Nat} {rc0 : Nat → Int32 → Int32 → Int32 → wPS → (Int32 → wPS → Prop) → Prop} {rc : (Nat → Nat) → Nat → Int32 → Int32 → Int32 → mV → Option Int32} (hrc : ∀ {S : wPS} {Ln : Nat → Nat} {V : mV} {v : Int32}  {l0Ax : Nat} {l0A : Nat} {l1Ix l1I : Int32} {l2Ix l2I : Int32} {l3Ix l3I : Int32} {Φ : (Int32 → wPS → Prop)}, rc Ln l0A l1I l2I l3I V = some v → mRel α S Ln V → mK l0A = 9 → l0Ax = α l0A → l1Ix = l1I → l2Ix = l2I → l3Ix = l3I → (Φ v S) → rc0  l0Ax l1Ix l2Ix l3Ix S Φ) {F : Nat} {v : Int32} {Φ : (Int32 → wPS → Prop)} : ∀ k' : Nat, (∀ (l0A : Nat) (l2I : Int32) (l3I : Int32) (l4I : Int32) (l5I : Int32) (l6I : Int32) (l7I : Int32) (l8I : Int32) (l9I : Int32) (S : wPS) (V : mV) (Ln : Nat → Nat) , mRel α S Ln V → mK l0A = 9 → mX8_readPrime_go F rc k' 0 Ln l0A l2I l3I l4I l5I l6I l7I l8I l9I V = some v → (Φ v S) → rX8_readPrime_go F rc0 k' 0 (α l0A) l2I l3I l4I l5I l6I l7I l8I l9I S Φ) := by
  intro k'
  induction k' with
  | zero => exact (fun _ _ _ _ _ _ _ _ _ _ _ _ _ _ h _ => by cases h)
  | succ k' ih =>
    intro l0A l2I l3I l4I l5I l6I l7I l8I l9I S V Ln R sl0A h k
    rw [mX8_readPrime_go, if_pos rfl] at h
    rw [rX8_readPrime_go, if_pos rfl]
    unfold mX8_readPrime_b0 at h
    unfold rX8_readPrime_b0
    refine mIf h Iff.rfl (fun c1 h => ?_) (fun c1 h => ?_)
    · refine mIf h Iff.rfl (fun c2 h => ?_) (fun c2 h => ?_)
      · cases h
        exact k
      · cases h
        exact k
    · refine mIf h Iff.rfl (fun c3 h => ?_) (fun c3 h => ?_)
      · refine mIf h Iff.rfl (fun c4 h => ?_) (fun c4 h => ?_)
        · cases h
          exact k
        · cases h
          exact k
      · refine mIf h (by rw [show gRow_count S (α l0A) = V.fI l0A 1 from (mg_I (i := l0A) R (mO9 sl0A) rfl 1)]) (fun c5 h => ?_) (fun c5 h => ?_)
        · refine mIf h Iff.rfl (fun c6 h => ?_) (fun c6 h => ?_)
          · cases h
            exact k
          · cases h
            exact k
        · obtain ⟨v7, hv7, h⟩ := mBN_some h
          refine LX9_at hv7 R sl0A rfl rfl ?_
          refine mIf h Iff.rfl (fun c7 h => ?_) (fun c7 h => ?_)
          · cases h
            exact k
          · refine mGd h Iff.rfl (fun c8 h => ?_)
            refine mIf h Iff.rfl (fun c9 h => ?_) (fun c9 h => ?_)
            · refine mIf h Iff.rfl (fun c10 h => ?_) (fun c10 h => ?_)
              · obtain ⟨v16, hv16, h⟩ := mBN_some h
                refine hrc hv16 R sl0A rfl rfl rfl rfl ?_
                refine mIf h Iff.rfl (fun c11 h => ?_) (fun c11 h => ?_)
                · obtain ⟨v22, hv22, h⟩ := mBN_some h
                  refine LX8_withoutDivisor hv22 rfl rfl ?_
                  refine mLet h rfl (fun x27 ex27 h => ?_)
                  exact ih _ _ _ _ _ _ _ _ _ _ _ _ R sl0A h k
                · cases h
                  exact k
              · refine mGd h Iff.rfl (fun c12 h => ?_)
                obtain ⟨v29, hv29, h⟩ := mBN_some h
                refine LX11_restOfPower hv29 rfl rfl rfl ?_
                refine mIf h Iff.rfl (fun c13 h => ?_) (fun c13 h => ?_)
                · cases h
                  exact k
                · obtain ⟨v35, hv35, h⟩ := mBN_some h
                  refine hrc hv35 R sl0A rfl rfl rfl rfl ?_
                  refine mIf h Iff.rfl (fun c14 h => ?_) (fun c14 h => ?_)
                  · obtain ⟨v41, hv41, h⟩ := mBN_some h
                    refine LX8_withoutDivisor hv41 rfl rfl ?_
                    refine mLet h rfl (fun x46 ex46 h => ?_)
                    exact ih _ _ _ _ _ _ _ _ _ _ _ _ R sl0A h k
                  · cases h
                    exact k
            · cases h
              exact k
set_option maxHeartbeats 4000000 in
set_option maxRecDepth 100000 in
theorem LX8_readPrime_a {α : Nat → Nat} {F : Nat} {S : wPS} {Ln : Nat → Nat} {V : mV} {v : Int32} {Φ : (Int32 → wPS → Prop)} {l0Ax : Nat} {l0A : Nat} {l1Ix l1I : Int32} {l2Ix l2I : Int32} {l3Ix l3I : Int32} {rc0 : Nat → Int32 → Int32 → Int32 → wPS → (Int32 → wPS → Prop) → Prop} {rc : (Nat → Nat) → Nat → Int32 → Int32 → Int32 → mV → Option Int32} (hrc : ∀ {S : wPS} {Ln : Nat → Nat} {V : mV} {v : Int32}  {l0Ax : Nat} {l0A : Nat} {l1Ix l1I : Int32} {l2Ix l2I : Int32} {l3Ix l3I : Int32} {Φ : (Int32 → wPS → Prop)}, rc Ln l0A l1I l2I l3I V = some v → mRel α S Ln V → mK l0A = 9 → l0Ax = α l0A → l1Ix = l1I → l2Ix = l2I → l3Ix = l3I → (Φ v S) → rc0  l0Ax l1Ix l2Ix l3Ix S Φ) (h : mX8_readPrime_a F rc Ln l0A l1I l2I l3I V = some v) (R : mRel α S Ln V) (sl0A : mK l0A = 9) (el0A : l0Ax = α l0A) (el1I : l1Ix = l1I) (el2I : l2Ix = l2I) (el3I : l3Ix = l3I) (k : (Φ v S)) : rX8_readPrime_a F rc0 l0Ax l1Ix l2Ix l3Ix S Φ := by
  have el0A := el0A.symm
  subst el0A
  have el1I := el1I.symm
  subst el1I
  have el2I := el2I.symm
  subst el2I
  have el3I := el3I.symm
  subst el3I
  have ih := LX8_readPrime_go  (α := α) (F := F) (v := v) (Φ := Φ) (rc0 := rc0) (rc := rc) @hrc F
  unfold mX8_readPrime_a mX8_readPrime_s at h
  unfold rX8_readPrime_a rX8_readPrime_s
  obtain ⟨v47, hv47, h⟩ := mBN_some h
  refine LX9_at hv47 R sl0A rfl rfl ?_
  refine mIf h (by rw [show gRow_count S (α l0A) = V.fI l0A 1 from (mg_I (i := l0A) R (mO9 sl0A) rfl 1)]) (fun c15 h => ?_) (fun c15 h => ?_)
  · cases h
    exact k
  · refine mIf h Iff.rfl (fun c16 h => ?_) (fun c16 h => ?_)
    · cases h
      exact k
    · refine mIf h Iff.rfl (fun c17 h => ?_) (fun c17 h => ?_)
      · refine mIf h Iff.rfl (fun c18 h => ?_) (fun c18 h => ?_)
        · cases h
          exact k
        · obtain ⟨v56, hv56, h⟩ := mBN_some h
          refine LX9_at hv56 R sl0A rfl rfl ?_
          refine mIf h Iff.rfl (fun c19 h => ?_) (fun c19 h => ?_)
          · cases h
            exact k
          · refine mIf h Iff.rfl (fun c20 h => ?_) (fun c20 h => ?_)
            · cases h
              exact k
            · refine mIf h Iff.rfl (fun c21 h => ?_) (fun c21 h => ?_)
              · refine mLet h rfl (fun x64 ex64 h => ?_)
                refine mLet h rfl (fun x65 ex65 h => ?_)
                exact ih _ _ _ _ _ _ _ _ _ _ _ _ R sl0A h k
              · obtain ⟨v66, hv66, h⟩ := mBN_some h
                refine LX11_restOfPower hv66 rfl rfl rfl ?_
                refine mIf h Iff.rfl (fun c22 h => ?_) (fun c22 h => ?_)
                · refine mLet h rfl (fun x72 ex72 h => ?_)
                  refine mLet h rfl (fun x73 ex73 h => ?_)
                  exact ih _ _ _ _ _ _ _ _ _ _ _ _ R sl0A h k
                · cases h
                  exact k
      · cases h
        exact k
theorem LX8_readPrime_d {α : Nat → Nat} {F : Nat} : ∀ (j : Nat) {S : wPS} {Ln : Nat → Nat} {V : mV} {v : Int32} {Φ : (Int32 → wPS → Prop)} {l0Ax : Nat} {l0A : Nat} {l1Ix l1I : Int32} {l2Ix l2I : Int32} {l3Ix l3I : Int32}, mX8_readPrime F j Ln l0A l1I l2I l3I V = some v → mRel α S Ln V → mK l0A = 9 → l0Ax = α l0A → l1Ix = l1I → l2Ix = l2I → l3Ix = l3I → (Φ v S) → rX8_readPrime F j l0Ax l1Ix l2Ix l3Ix S Φ := by
  intro j
  induction j with
  | zero => intro _ _ _ _ _ _ _ _ _ _ _ _ _ h; cases h
  | succ j ih =>
    intro _ _ _ _ _ _ _ _ _ _ _ _ _ h R a0 a1 a2 a3 a4 k
    exact LX8_readPrime_a (rc := mX8_readPrime F j) (hrc := fun h => ih h) h R a0 a1 a2 a3 a4 k
theorem LX8_readPrime {α : Nat → Nat} {F j : Nat} {S : wPS} {Ln : Nat → Nat} {V : mV} {v : Int32} {Φ : (Int32 → wPS → Prop)} {l0Ax : Nat} {l0A : Nat} {l1Ix l1I : Int32} {l2Ix l2I : Int32} {l3Ix l3I : Int32} (h : mX8_readPrime F j Ln l0A l1I l2I l3I V = some v) (R : mRel α S Ln V) (sl0A : mK l0A = 9) (el0A : l0Ax = α l0A) (el1I : l1Ix = l1I) (el2I : l2Ix = l2I) (el3I : l3Ix = l3I) (k : (Φ v S)) : rX8_readPrime F j l0Ax l1Ix l2Ix l3Ix S Φ := LX8_readPrime_d j h R sl0A el0A el1I el2I el3I k
def mX8_judgeProduct (F : Nat) (Ln : Nat → Nat) (l1A : Nat) (l2A : Nat) (V : mV) : Option Int32 :=
  (if (V.fI l2A 1) = (2 : Int32) then (mBN (mX9_at F Ln l2A ((0 : Int32)) V) fun v2 => (if v2 < (2 : Int32) then some ((1 : Int32)) else (mBN (mX9_at F Ln l2A ((1 : Int32)) V) fun v8 => (if (2 : Int32) ≤ v8 then (mBN (mX9_at F Ln l2A ((0 : Int32)) V) fun v14 => (mBN (mX9_at F Ln l2A ((1 : Int32)) V) fun v19 => (if (lg_cmp ((Int32.toInt64 v14) * (Int32.toInt64 v19)) (Int32.toInt64 (V.fI l1A 8))) = 0 then some ((0 : Int32)) else some ((2 : Int32))))) else some ((1 : Int32)))))) else some ((1 : Int32)))
set_option maxHeartbeats 4000000 in
set_option maxRecDepth 100000 in
theorem LX8_judgeProduct {α : Nat → Nat} {F : Nat} {S : wPS} {Ln : Nat → Nat} {V : mV} {v : Int32} {Φ : (Int32 → wPS → Prop)} {l0Ax : Nat} {l1Ax : Nat} {l1A : Nat} {l2Ax : Nat} {l2A : Nat} (h : mX8_judgeProduct F Ln l1A l2A V = some v) (R : mRel α S Ln V) (sl1A : mK l1A = 3) (sl2A : mK l2A = 9) (el0A : l0Ax = α 6) (el1A : l1Ax = α l1A) (el2A : l2Ax = α l2A) (k : (Φ v S)) : rX8_judgeProduct F l0Ax l1Ax l2Ax S Φ := by
  have el0A := el0A.symm
  subst el0A
  have el1A := el1A.symm
  subst el1A
  have el2A := el2A.symm
  subst el2A
  unfold mX8_judgeProduct at h
  unfold rX8_judgeProduct
  refine mIf h (by rw [show gRow_count S (α l2A) = V.fI l2A 1 from (mg_I (i := l2A) R (mO9 sl2A) rfl 1)]) (fun c1 h => ?_) (fun c1 h => ?_)
  · obtain ⟨v2, hv2, h⟩ := mBN_some h
    refine LX9_at hv2 R sl2A rfl rfl ?_
    refine mIf h Iff.rfl (fun c2 h => ?_) (fun c2 h => ?_)
    · cases h
      exact k
    · obtain ⟨v8, hv8, h⟩ := mBN_some h
      refine LX9_at hv8 R sl2A rfl rfl ?_
      refine mIf h Iff.rfl (fun c3 h => ?_) (fun c3 h => ?_)
      · obtain ⟨v14, hv14, h⟩ := mBN_some h
        refine LX9_at hv14 R sl2A rfl rfl ?_
        obtain ⟨v19, hv19, h⟩ := mBN_some h
        refine LX9_at hv19 R sl2A rfl rfl ?_
        refine mIf h (by rw [show gEntry_boundNow S (α l1A) = V.fI l1A 8 from (mg_I (i := l1A) R (mO3 sl1A) rfl 8)]) (fun c4 h => ?_) (fun c4 h => ?_)
        · cases h
          exact k
        · cases h
          exact k
      · cases h
        exact k
  · cases h
    exact k
def mX8_divide_b0 (F : Nat) (rec : Nat → Int32 → Nat → Int32 → Int64 → Int32 → Int32 → Int64 → mV → Option (Unit × mV)) (l2A : Nat) (l4I : Int32) (l5J : Int64) (l7I : Int32) (V : mV) : Option (Unit × mV) :=
  (if l7I < 0 then some ((), V) else (if (lg_cmp l5J (0 : Int64)) = 0 then some ((), V) else (rec 1 0 l2A (l4I) (l5J) (l7I) ((0 : Int32)) 0 V)))
def mX8_divide_b1 (F : Nat) (rec : Nat → Int32 → Nat → Int32 → Int64 → Int32 → Int32 → Int64 → mV → Option (Unit × mV)) (l2A : Nat) (l4I : Int32) (l5J : Int64) (l7I : Int32) (l8I : Int32) (V : mV) : Option (Unit × mV) :=
  (if (4 : Int32) ≤ l8I then (if (l7I + l4I) < 0 ∨ 4 ≤ ((l7I + l4I)).toNatClampNeg then none else (if l5J = 0 then none else (mLt ((V.rJ 68 ((l7I + l4I)).toNatClampNeg) / l5J) fun x6 => (if l7I < 0 ∨ 4 ≤ (l7I).toNatClampNeg then none else (mLt (mJ V 69 (l7I) (x6)) fun V8 => (rec 2 ((0 : Int32)) l2A (l4I) (l5J) (l7I) 0 (x6) V8)))))) else (if l8I < 0 ∨ 4 ≤ (l8I).toNatClampNeg then none else (if l8I < 0 ∨ 4 ≤ (l8I).toNatClampNeg then none else (mLt (mJ V 68 (l8I) (((V.rJ 68 (l8I).toNatClampNeg) * (if 0 < l5J then l5J else -l5J)))) fun V11 => (if l8I < 0 ∨ 4 ≤ (l8I).toNatClampNeg then none else (if l8I < 0 ∨ 4 ≤ (l8I).toNatClampNeg then none else (mLt (mJ V11 69 (l8I) (((V11.rJ 69 (l8I).toNatClampNeg) * (if 0 < l5J then l5J else -l5J)))) fun V14 => (mLt (l8I + (1 : Int32)) fun x15 => (rec 1 0 l2A (l4I) (l5J) (l7I) (x15) 0 V14)))))))))
def mX8_divide_b2 (F : Nat) (rec : Nat → Int32 → Nat → Int32 → Int64 → Int32 → Int32 → Int64 → mV → Option (Unit × mV)) (l2A : Nat) (l4I : Int32) (l5J : Int64) (l7I : Int32) (l8J : Int64) (l10I : Int32) (V : mV) : Option (Unit × mV) :=
  (if l4I < l10I then (mLt (l7I + (-1 : Int32)) fun x17 => (rec 0 0 l2A (l4I) (l5J) (x17) 0 0 V)) else (if (l7I + l10I) < 0 ∨ 4 ≤ ((l7I + l10I)).toNatClampNeg then none else (if l10I < 0 ∨ mLen l2A ≤ (l10I).toNatClampNeg then none else (if (l7I + l10I) < 0 ∨ 4 ≤ ((l7I + l10I)).toNatClampNeg then none else (mLt (mJ V 68 ((l7I + l10I)) (((V.rJ 68 ((l7I + l10I)).toNatClampNeg) - (l8J * (V.rJ l2A (l10I).toNatClampNeg))))) fun V21 => (mLt (l10I + (1 : Int32)) fun x22 => (rec 2 (x22) l2A (l4I) (l5J) (l7I) 0 (l8J) V21)))))))
def mX8_divide_go (F : Nat) : Nat → Nat → Int32 → Nat → Int32 → Int64 → Int32 → Int32 → Int64 → mV → Option (Unit × mV)
  | 0, _, _, _, _, _, _, _, _, _ => none
  | k' + 1, lab, l10I, l2A, l4I, l5J, l7I, l8I, l8J, V => if lab = 0 then mX8_divide_b0 F (mX8_divide_go F k') l2A l4I l5J l7I V else if lab = 1 then mX8_divide_b1 F (mX8_divide_go F k') l2A l4I l5J l7I l8I V else if lab = 2 then mX8_divide_b2 F (mX8_divide_go F k') l2A l4I l5J l7I l8J l10I V else none
def mX8_divide_s (F : Nat) (rec : Nat → Int32 → Nat → Int32 → Int64 → Int32 → Int32 → Int64 → mV → Option (Unit × mV)) (l1A : Nat) (l2A : Nat) (l3I : Int32) (l4I : Int32) (V : mV) : Option (Unit × mV) :=
  (if (0 : Int32) < 0 then none else (if (0 : Int32) < 0 then none else (if (4 : Int32) < 0 then none else (if ¬ (((0 : Int32)).toNatClampNeg + ((4 : Int32)).toNatClampNeg ≤ mLen l1A) then none else (if ¬ (((0 : Int32)).toNatClampNeg + ((4 : Int32)).toNatClampNeg ≤ 4) then none else (mLt (mRJ V 68 ((va_cpy (V.rJ l1A) (V.rJ 68) ((0 : Int32)).toNatClampNeg ((0 : Int32)).toNatClampNeg ((4 : Int32)).toNatClampNeg))) fun V24 => (mBW (mJ7_fill_d0a16 F 69 ((0 : Int64)) V24) fun v25 V26 => (if l4I < 0 ∨ mLen l2A ≤ (l4I).toNatClampNeg then none else (mLt (V26.rJ l2A (l4I).toNatClampNeg) fun x31 => (mLt (l3I - l4I) fun x32 => (rec 0 0 l2A (l4I) (x31) (x32) 0 0 V26)))))))))))
def mX8_divide (F : Nat) (l1A : Nat) (l2A : Nat) (l3I : Int32) (l4I : Int32) (V : mV) : Option (Unit × mV) := mX8_divide_s F (mX8_divide_go F F) l1A l2A l3I l4I V
set_option maxHeartbeats 4000000 in
set_option maxRecDepth 100000 in
theorem LX8_divide_go {α : Nat → Nat} {F : Nat} {Ln : Nat → Nat} {v : Unit} {V1 : mV} {Φ : (Unit → wPS → Prop)} : ∀ k' : Nat, (∀ (l2A : Nat) (l4I : Int32) (l5J : Int64) (l7I : Int32) (S : wPS) (V : mV) , mRel α S Ln V → mK l2A = 14 → mX8_divide_go F k' 0 0 l2A l4I l5J l7I 0 0 V = some (v, V1) → (∀ S1, mRel α S1 Ln V1 → mFr α S S1 → Φ v S1) → rX8_divide_go F k' 0 (α 6) 0 (α l2A) l4I l5J l7I 0 0 S Φ) ∧ (∀ (l2A : Nat) (l4I : Int32) (l5J : Int64) (l7I : Int32) (l8I : Int32) (S : wPS) (V : mV) , mRel α S Ln V → mK l2A = 14 → mX8_divide_go F k' 1 0 l2A l4I l5J l7I l8I 0 V = some (v, V1) → (∀ S1, mRel α S1 Ln V1 → mFr α S S1 → Φ v S1) → rX8_divide_go F k' 1 (α 6) 0 (α l2A) l4I l5J l7I l8I 0 S Φ) ∧ (∀ (l2A : Nat) (l4I : Int32) (l5J : Int64) (l7I : Int32) (l8J : Int64) (l10I : Int32) (S : wPS) (V : mV) , mRel α S Ln V → mK l2A = 14 → mX8_divide_go F k' 2 l10I l2A l4I l5J l7I 0 l8J V = some (v, V1) → (∀ S1, mRel α S1 Ln V1 → mFr α S S1 → Φ v S1) → rX8_divide_go F k' 2 (α 6) l10I (α l2A) l4I l5J l7I 0 l8J S Φ) := by
  intro k'
  induction k' with
  | zero => exact ⟨(fun _ _ _ _ _ _ _ _ h _ => by cases h), (fun _ _ _ _ _ _ _ _ _ h _ => by cases h), (fun _ _ _ _ _ _ _ _ _ _ h _ => by cases h)⟩
  | succ k' ih =>
    refine ⟨?_, ?_, ?_⟩
    · intro l2A l4I l5J l7I S V R sl2A h k
      rw [mX8_divide_go, if_pos rfl] at h
      rw [rX8_divide_go, if_pos rfl]
      unfold mX8_divide_b0 at h
      unfold rX8_divide_b0
      refine mIf h Iff.rfl (fun c1 h => ?_) (fun c1 h => ?_)
      · obtain ⟨rfl, rfl⟩ := mRW h
        exact k _ R mFr.rf
      · refine mIf h Iff.rfl (fun c2 h => ?_) (fun c2 h => ?_)
        · obtain ⟨rfl, rfl⟩ := mRW h
          exact k _ R mFr.rf
        · exact ih.2.1 _ _ _ _ _ _ _ R sl2A h (fun S1 R1 F1 => k S1 R1 F1)
    · intro l2A l4I l5J l7I l8I S V R sl2A h k
      rw [mX8_divide_go, if_neg (by decide), if_pos rfl] at h
      rw [rX8_divide_go, if_neg (by decide), if_pos rfl]
      unfold mX8_divide_b1 at h
      unfold rX8_divide_b1
      refine mIf h Iff.rfl (fun c3 h => ?_) (fun c3 h => ?_)
      · refine mGd h (by rw [show S.len (wkAd (gNumbers_left S (α 6))) = 4 from (mg_len (i := 68) R (mA14 rfl) (mg_A (t := 68) R rfl rfl))]) (fun c4 h => ?_)
        refine mGd h Iff.rfl (fun c5 h => ?_)
        refine mLet h (by rw [show S.rJ (wkAd (gNumbers_left S (α 6))) ((l7I + l4I)).toNatClampNeg = V.rJ 68 ((l7I + l4I)).toNatClampNeg from (mg_rJ (i := 68) R (mA14 rfl) (mg_A (t := 68) R rfl rfl) rfl)]) (fun x6 ex6 h => ?_)
        refine mGd h (by rw [show S.len (wkAd (gNumbers_often S (α 6))) = 4 from (mg_len (i := 69) R (mA14 rfl) (mg_A (t := 69) R rfl rfl))]) (fun c6 h => ?_)
        obtain ⟨V8, eV8, h⟩ := mLt_some h
        refine mU_J eV8 R (mA14 rfl) (mg_A (t := 69) R rfl rfl) rfl rfl (fun S8 R8 F8 => ?_)
        exact ih.2.2 _ _ _ _ _ _ _ _ R8 sl2A h (fun S1 R1 F1 => k S1 R1 (F8.tr F1))
      · refine mGd h (by rw [show S.len (wkAd (gNumbers_left S (α 6))) = 4 from (mg_len (i := 68) R (mA14 rfl) (mg_A (t := 68) R rfl rfl))]) (fun c7 h => ?_)
        refine mGd h (by rw [show S.len (wkAd (gNumbers_left S (α 6))) = 4 from (mg_len (i := 68) R (mA14 rfl) (mg_A (t := 68) R rfl rfl))]) (fun c8 h => ?_)
        obtain ⟨V11, eV11, h⟩ := mLt_some h
        refine mU_J eV11 R (mA14 rfl) (mg_A (t := 68) R rfl rfl) rfl (by rw [show S.rJ (wkAd (gNumbers_left S (α 6))) (l8I).toNatClampNeg = V.rJ 68 (l8I).toNatClampNeg from (mg_rJ (i := 68) R (mA14 rfl) (mg_A (t := 68) R rfl rfl) rfl)]) (fun S11 R11 F11 => ?_)
        refine mGd h (by rw [show S11.len (wkAd (gNumbers_often S11 (α 6))) = 4 from (mg_len (i := 69) R11 (mA14 rfl) (mg_A (t := 69) R11 rfl rfl))]) (fun c9 h => ?_)
        refine mGd h (by rw [show S11.len (wkAd (gNumbers_often S11 (α 6))) = 4 from (mg_len (i := 69) R11 (mA14 rfl) (mg_A (t := 69) R11 rfl rfl))]) (fun c10 h => ?_)
        obtain ⟨V14, eV14, h⟩ := mLt_some h
        refine mU_J eV14 R11 (mA14 rfl) (mg_A (t := 69) R11 rfl rfl) rfl (by rw [show S11.rJ (wkAd (gNumbers_often S11 (α 6))) (l8I).toNatClampNeg = V11.rJ 69 (l8I).toNatClampNeg from (mg_rJ (i := 69) R11 (mA14 rfl) (mg_A (t := 69) R11 rfl rfl) rfl)]) (fun S14 R14 F14 => ?_)
        refine mLet h rfl (fun x15 ex15 h => ?_)
        exact ih.2.1 _ _ _ _ _ _ _ R14 sl2A h (fun S1 R1 F1 => k S1 R1 (F11.tr (F14.tr F1)))
    · intro l2A l4I l5J l7I l8J l10I S V R sl2A h k
      rw [mX8_divide_go, if_neg (by decide), if_neg (by decide), if_pos rfl] at h
      rw [rX8_divide_go, if_neg (by decide), if_neg (by decide), if_pos rfl]
      unfold mX8_divide_b2 at h
      unfold rX8_divide_b2
      refine mIf h Iff.rfl (fun c11 h => ?_) (fun c11 h => ?_)
      · refine mLet h rfl (fun x17 ex17 h => ?_)
        exact ih.1 _ _ _ _ _ _ R sl2A h (fun S1 R1 F1 => k S1 R1 F1)
      · refine mGd h (by rw [show S.len (wkAd (gNumbers_left S (α 6))) = 4 from (mg_len (i := 68) R (mA14 rfl) (mg_A (t := 68) R rfl rfl))]) (fun c12 h => ?_)
        refine mGd h (by rw [show S.len (α l2A) = mLen l2A from (mg_len R (mA14 sl2A) rfl)]) (fun c13 h => ?_)
        refine mGd h (by rw [show S.len (wkAd (gNumbers_left S (α 6))) = 4 from (mg_len (i := 68) R (mA14 rfl) (mg_A (t := 68) R rfl rfl))]) (fun c14 h => ?_)
        obtain ⟨V21, eV21, h⟩ := mLt_some h
        refine mU_J eV21 R (mA14 rfl) (mg_A (t := 68) R rfl rfl) rfl (by rw [show S.rJ (wkAd (gNumbers_left S (α 6))) ((l7I + l10I)).toNatClampNeg = V.rJ 68 ((l7I + l10I)).toNatClampNeg from (mg_rJ (i := 68) R (mA14 rfl) (mg_A (t := 68) R rfl rfl) rfl), show S.rJ (α l2A) (l10I).toNatClampNeg = V.rJ l2A (l10I).toNatClampNeg from (mg_rJ (i := l2A) R (mA14 sl2A) rfl rfl)]) (fun S21 R21 F21 => ?_)
        refine mLet h rfl (fun x22 ex22 h => ?_)
        exact ih.2.2 _ _ _ _ _ _ _ _ R21 sl2A h (fun S1 R1 F1 => k S1 R1 (F21.tr F1))
set_option maxHeartbeats 4000000 in
set_option maxRecDepth 100000 in
theorem LX8_divide {α : Nat → Nat} {F : Nat} {S : wPS} {Ln : Nat → Nat} {V V1 : mV} {v : Unit} {Φ : (Unit → wPS → Prop)} {l0Ax : Nat} {l1Ax : Nat} {l1A : Nat} {l2Ax : Nat} {l2A : Nat} {l3Ix l3I : Int32} {l4Ix l4I : Int32} (h : mX8_divide F l1A l2A l3I l4I V = some (v, V1)) (R : mRel α S Ln V) (sl1A : mK l1A = 14) (sl2A : mK l2A = 14) (el0A : l0Ax = α 6) (el1A : l1Ax = α l1A) (el2A : l2Ax = α l2A) (el3I : l3Ix = l3I) (el4I : l4Ix = l4I) (k : (∀ S1, mRel α S1 Ln V1 → mFr α S S1 → Φ v S1)) : rX8_divide F l0Ax l1Ax l2Ax l3Ix l4Ix S Φ := by
  have el0A := el0A.symm
  subst el0A
  have el1A := el1A.symm
  subst el1A
  have el2A := el2A.symm
  subst el2A
  have el3I := el3I.symm
  subst el3I
  have el4I := el4I.symm
  subst el4I
  have ih := LX8_divide_go  (α := α) (F := F) (v := v) (Ln := Ln) (Φ := Φ) (V1 := V1) F
  unfold mX8_divide mX8_divide_s at h
  unfold rX8_divide rX8_divide_s
  refine mGd h Iff.rfl (fun c15 h => ?_)
  refine mGd h Iff.rfl (fun c16 h => ?_)
  refine mGd h Iff.rfl (fun c17 h => ?_)
  refine mGp h (by rw [show S.len (α l1A) = mLen l1A from (mg_len R (mA14 sl1A) rfl)]) (fun c18 h => ?_)
  refine mGp h (by rw [show S.len (wkAd (gNumbers_left S (α 6))) = 4 from (mg_len (i := 68) R (mA14 rfl) (mg_A (t := 68) R rfl rfl))]) (fun c19 h => ?_)
  obtain ⟨V24, eV24, h⟩ := mLt_some h
  refine mU_RJ eV24 R (mA14 rfl) (mg_A (t := 68) R rfl rfl) (by rw [show S.rJ (wkAd (gNumbers_left S (α 6))) = V.rJ 68 from (mg_rJf (i := 68) R (mA14 rfl) (mg_A (t := 68) R rfl rfl)), show S.rJ (α l1A) = V.rJ l1A from (mg_rJf (i := l1A) R (mA14 sl1A) rfl)]) (fun S24 R24 F24 => ?_)
  obtain ⟨v25, V26, hv25, h⟩ := mBW_some h
  refine LJ7_fill_d0a16 hv25 R24 rfl (mg_A (t := 69) R24 rfl rfl) rfl (fun S26 R26 F26 => ?_)
  refine mGd h (by rw [show S26.len (α l2A) = mLen l2A from (mg_len R26 (mA14 sl2A) rfl)]) (fun c20 h => ?_)
  refine mLet h (by rw [show S26.rJ (α l2A) (l4I).toNatClampNeg = V26.rJ l2A (l4I).toNatClampNeg from (mg_rJ (i := l2A) R26 (mA14 sl2A) rfl rfl)]) (fun x31 ex31 h => ?_)
  refine mLet h rfl (fun x32 ex32 h => ?_)
  exact ih.1 _ _ _ _ _ _ R26 sl2A h (fun S1 R1 F1 => k S1 R1 (F24.tr (F26.tr F1)))
def mX8_makeFree_b0 (F : Nat) (rec : Nat → Nat → Int64 → Int32 → mV → Option (Unit × mV)) (l0A : Nat) (l1J : Int64) (l3I : Int32) (V : mV) : Option (Unit × mV) :=
  (if (Int32.ofNat (mLen l0A)) ≤ l3I then (rec 1 l0A (l1J) ((0 : Int32)) V) else (if l3I < 0 ∨ mLen l0A ≤ (l3I).toNatClampNeg then none else (mBN (mX11_divisorInCommon F (l1J) ((V.rJ l0A (l3I).toNatClampNeg))) fun v3 => (mLt (l3I + (1 : Int32)) fun x8 => (rec 0 l0A (v3) (x8) V)))))
def mX8_makeFree_b1 (F : Nat) (rec : Nat → Nat → Int64 → Int32 → mV → Option (Unit × mV)) (l0A : Nat) (l1J : Int64) (l3I : Int32) (V : mV) : Option (Unit × mV) :=
  (if (Int32.ofNat (mLen l0A)) ≤ l3I then some ((), V) else (if (lg_cmp l1J (1 : Int64)) ≤ 0 then some ((), V) else (if l3I < 0 ∨ mLen l0A ≤ (l3I).toNatClampNeg then none else (if l1J = 0 then none else (if l3I < 0 ∨ mLen l0A ≤ (l3I).toNatClampNeg then none else (mLt (mJ V l0A (l3I) (((V.rJ l0A (l3I).toNatClampNeg) / l1J))) fun V14 => (mLt (l3I + (1 : Int32)) fun x15 => (rec 1 l0A (l1J) (x15) V14))))))))
def mX8_makeFree_go (F : Nat) : Nat → Nat → Nat → Int64 → Int32 → mV → Option (Unit × mV)
  | 0, _, _, _, _, _ => none
  | k' + 1, lab, l0A, l1J, l3I, V => if lab = 0 then mX8_makeFree_b0 F (mX8_makeFree_go F k') l0A l1J l3I V else if lab = 1 then mX8_makeFree_b1 F (mX8_makeFree_go F k') l0A l1J l3I V else none
def mX8_makeFree_s (F : Nat) (rec : Nat → Nat → Int64 → Int32 → mV → Option (Unit × mV)) (l0A : Nat) (V : mV) : Option (Unit × mV) :=
  (rec 0 l0A ((0 : Int64)) ((0 : Int32)) V)
def mX8_makeFree (F : Nat) (l0A : Nat) (V : mV) : Option (Unit × mV) := mX8_makeFree_s F (mX8_makeFree_go F F) l0A V
set_option maxHeartbeats 4000000 in
set_option maxRecDepth 100000 in
theorem LX8_makeFree_go {α : Nat → Nat} {F : Nat} {Ln : Nat → Nat} {v : Unit} {V1 : mV} {Φ : (Unit → wPS → Prop)} : ∀ k' : Nat, (∀ (l0A : Nat) (l1J : Int64) (l3I : Int32) (S : wPS) (V : mV) , mRel α S Ln V → mK l0A = 14 → mX8_makeFree_go F k' 0 l0A l1J l3I V = some (v, V1) → (∀ S1, mRel α S1 Ln V1 → mFr α S S1 → Φ v S1) → rX8_makeFree_go F k' 0 (α l0A) l1J l3I S Φ) ∧ (∀ (l0A : Nat) (l1J : Int64) (l3I : Int32) (S : wPS) (V : mV) , mRel α S Ln V → mK l0A = 14 → mX8_makeFree_go F k' 1 l0A l1J l3I V = some (v, V1) → (∀ S1, mRel α S1 Ln V1 → mFr α S S1 → Φ v S1) → rX8_makeFree_go F k' 1 (α l0A) l1J l3I S Φ) := by
  intro k'
  induction k' with
  | zero => exact ⟨(fun _ _ _ _ _ _ _ h _ => by cases h), (fun _ _ _ _ _ _ _ h _ => by cases h)⟩
  | succ k' ih =>
    refine ⟨?_, ?_⟩
    · intro l0A l1J l3I S V R sl0A h k
      rw [mX8_makeFree_go, if_pos rfl] at h
      rw [rX8_makeFree_go, if_pos rfl]
      unfold mX8_makeFree_b0 at h
      unfold rX8_makeFree_b0
      refine mIf h (by rw [show S.len (α l0A) = mLen l0A from (mg_len R (mA14 sl0A) rfl)]) (fun c1 h => ?_) (fun c1 h => ?_)
      · exact ih.2 _ _ _ _ _ R sl0A h (fun S1 R1 F1 => k S1 R1 F1)
      · refine mGd h (by rw [show S.len (α l0A) = mLen l0A from (mg_len R (mA14 sl0A) rfl)]) (fun c2 h => ?_)
        obtain ⟨v3, hv3, h⟩ := mBN_some h
        refine LX11_divisorInCommon hv3 rfl (by rw [show S.rJ (α l0A) (l3I).toNatClampNeg = V.rJ l0A (l3I).toNatClampNeg from (mg_rJ (i := l0A) R (mA14 sl0A) rfl rfl)]) ?_
        refine mLet h rfl (fun x8 ex8 h => ?_)
        exact ih.1 _ _ _ _ _ R sl0A h (fun S1 R1 F1 => k S1 R1 F1)
    · intro l0A l1J l3I S V R sl0A h k
      rw [mX8_makeFree_go, if_neg (by decide), if_pos rfl] at h
      rw [rX8_makeFree_go, if_neg (by decide), if_pos rfl]
      unfold mX8_makeFree_b1 at h
      unfold rX8_makeFree_b1
      refine mIf h (by rw [show S.len (α l0A) = mLen l0A from (mg_len R (mA14 sl0A) rfl)]) (fun c3 h => ?_) (fun c3 h => ?_)
      · obtain ⟨rfl, rfl⟩ := mRW h
        exact k _ R mFr.rf
      · refine mIf h Iff.rfl (fun c4 h => ?_) (fun c4 h => ?_)
        · obtain ⟨rfl, rfl⟩ := mRW h
          exact k _ R mFr.rf
        · refine mGd h (by rw [show S.len (α l0A) = mLen l0A from (mg_len R (mA14 sl0A) rfl)]) (fun c5 h => ?_)
          refine mGd h Iff.rfl (fun c6 h => ?_)
          refine mGd h (by rw [show S.len (α l0A) = mLen l0A from (mg_len R (mA14 sl0A) rfl)]) (fun c7 h => ?_)
          obtain ⟨V14, eV14, h⟩ := mLt_some h
          refine mU_J eV14 R (mA14 sl0A) rfl rfl (by rw [show S.rJ (α l0A) (l3I).toNatClampNeg = V.rJ l0A (l3I).toNatClampNeg from (mg_rJ (i := l0A) R (mA14 sl0A) rfl rfl)]) (fun S14 R14 F14 => ?_)
          refine mLet h rfl (fun x15 ex15 h => ?_)
          exact ih.2 _ _ _ _ _ R14 sl0A h (fun S1 R1 F1 => k S1 R1 (F14.tr F1))
set_option maxHeartbeats 4000000 in
set_option maxRecDepth 100000 in
theorem LX8_makeFree {α : Nat → Nat} {F : Nat} {S : wPS} {Ln : Nat → Nat} {V V1 : mV} {v : Unit} {Φ : (Unit → wPS → Prop)} {l0Ax : Nat} {l0A : Nat} (h : mX8_makeFree F l0A V = some (v, V1)) (R : mRel α S Ln V) (sl0A : mK l0A = 14) (el0A : l0Ax = α l0A) (k : (∀ S1, mRel α S1 Ln V1 → mFr α S S1 → Φ v S1)) : rX8_makeFree F l0Ax S Φ := by
  have el0A := el0A.symm
  subst el0A
  have ih := LX8_makeFree_go  (α := α) (F := F) (v := v) (Ln := Ln) (Φ := Φ) (V1 := V1) F
  unfold mX8_makeFree mX8_makeFree_s at h
  unfold rX8_makeFree rX8_makeFree_s
  exact ih.1 _ _ _ _ _ R sl0A h (fun S1 R1 F1 => k S1 R1 F1)
def mX8_changesAt_b0 (F : Nat) (rec : Nat → Int32 → Int32 → Int32 → Int32 → Int32 → mV → Option Int32) (l1I : Int32) (l2I : Int32) (l3I : Int32) (l4I : Int32) (l5I : Int32) (V : mV) : Option Int32 :=
  (if (V.fI 6 8) ≤ l5I then some (l3I) else (mBN (mX8_senseAt F (l5I) (l1I) (l2I) V) fun v2 => (if v2 = 0 then (mLt (l5I + (1 : Int32)) fun x8 => (rec 0 (l1I) (l2I) (l3I) (l4I) (x8) V)) else (if l4I = 0 then (mLt (l3I + (0 : Int32)) fun x10 => (mLt (l5I + (1 : Int32)) fun x11 => (rec 0 (l1I) (l2I) (x10) (v2) (x11) V))) else (if v2 = l4I then (mLt (l3I + (0 : Int32)) fun x13 => (mLt (l5I + (1 : Int32)) fun x14 => (rec 0 (l1I) (l2I) (x13) (v2) (x14) V))) else (mLt (l3I + (1 : Int32)) fun x15 => (mLt (l5I + (1 : Int32)) fun x16 => (rec 0 (l1I) (l2I) (x15) (v2) (x16) V))))))))
def mX8_changesAt_go (F : Nat) : Nat → Nat → Int32 → Int32 → Int32 → Int32 → Int32 → mV → Option Int32
  | 0, _, _, _, _, _, _, _ => none
  | k' + 1, lab, l1I, l2I, l3I, l4I, l5I, V => if lab = 0 then mX8_changesAt_b0 F (mX8_changesAt_go F k') l1I l2I l3I l4I l5I V else none
def mX8_changesAt_s (F : Nat) (rec : Nat → Int32 → Int32 → Int32 → Int32 → Int32 → mV → Option Int32) (l1I : Int32) (l2I : Int32) (V : mV) : Option Int32 :=
  (rec 0 (l1I) (l2I) ((0 : Int32)) ((0 : Int32)) ((0 : Int32)) V)
def mX8_changesAt (F : Nat) (l1I : Int32) (l2I : Int32) (V : mV) : Option Int32 := mX8_changesAt_s F (mX8_changesAt_go F F) l1I l2I V
set_option maxHeartbeats 4000000 in
set_option maxRecDepth 100000 in
theorem LX8_changesAt_go {α : Nat → Nat} {F : Nat} {Ln : Nat → Nat} {v : Int32} {Φ : (Int32 → wPS → Prop)} : ∀ k' : Nat, (∀ (l1I : Int32) (l2I : Int32) (l3I : Int32) (l4I : Int32) (l5I : Int32) (S : wPS) (V : mV) , mRel α S Ln V → mX8_changesAt_go F k' 0 l1I l2I l3I l4I l5I V = some v → (Φ v S) → rX8_changesAt_go F k' 0 (α 6) l1I l2I l3I l4I l5I S Φ) := by
  intro k'
  induction k' with
  | zero => exact (fun _ _ _ _ _ _ _ _ h _ => by cases h)
  | succ k' ih =>
    intro l1I l2I l3I l4I l5I S V R h k
    rw [mX8_changesAt_go, if_pos rfl] at h
    rw [rX8_changesAt_go, if_pos rfl]
    unfold mX8_changesAt_b0 at h
    unfold rX8_changesAt_b0
    refine mIf h (by rw [show gNumbers_chainCount S (α 6) = V.fI 6 8 from (mg_I (i := 6) R (by decide) rfl 8)]) (fun c1 h => ?_) (fun c1 h => ?_)
    · cases h
      exact k
    · obtain ⟨v2, hv2, h⟩ := mBN_some h
      refine LX8_senseAt hv2 R rfl rfl rfl rfl ?_
      refine mIf h Iff.rfl (fun c2 h => ?_) (fun c2 h => ?_)
      · refine mLet h rfl (fun x8 ex8 h => ?_)
        exact ih _ _ _ _ _ _ _ R h k
      · refine mIf h Iff.rfl (fun c3 h => ?_) (fun c3 h => ?_)
        · refine mLet h rfl (fun x10 ex10 h => ?_)
          refine mLet h rfl (fun x11 ex11 h => ?_)
          exact ih _ _ _ _ _ _ _ R h k
        · refine mIf h Iff.rfl (fun c4 h => ?_) (fun c4 h => ?_)
          · refine mLet h rfl (fun x13 ex13 h => ?_)
            refine mLet h rfl (fun x14 ex14 h => ?_)
            exact ih _ _ _ _ _ _ _ R h k
          · refine mLet h rfl (fun x15 ex15 h => ?_)
            refine mLet h rfl (fun x16 ex16 h => ?_)
            exact ih _ _ _ _ _ _ _ R h k
set_option maxHeartbeats 4000000 in
set_option maxRecDepth 100000 in
theorem LX8_changesAt {α : Nat → Nat} {F : Nat} {S : wPS} {Ln : Nat → Nat} {V : mV} {v : Int32} {Φ : (Int32 → wPS → Prop)} {l0Ax : Nat} {l1Ix l1I : Int32} {l2Ix l2I : Int32} (h : mX8_changesAt F l1I l2I V = some v) (R : mRel α S Ln V) (el0A : l0Ax = α 6) (el1I : l1Ix = l1I) (el2I : l2Ix = l2I) (k : (Φ v S)) : rX8_changesAt F l0Ax l1Ix l2Ix S Φ := by
  have el0A := el0A.symm
  subst el0A
  have el1I := el1I.symm
  subst el1I
  have el2I := el2I.symm
  subst el2I
  have ih := LX8_changesAt_go  (α := α) (F := F) (v := v) (Ln := Ln) (Φ := Φ) F
  unfold mX8_changesAt mX8_changesAt_s at h
  unfold rX8_changesAt rX8_changesAt_s
  exact ih _ _ _ _ _ _ _ R h k
def mX8_areParts_b0 (F : Nat) (rec : Nat → (Nat → Nat) → Nat → Int32 → mV → Option Int32) (Ln : Nat → Nat) (l0A : Nat) (l1I : Int32) (V : mV) : Option Int32 :=
  (if (V.fI l0A 1) ≤ l1I then some ((1 : Int32)) else (mBN (mX9_at F Ln l0A (l1I) V) fun v2 => (mBN (mX9_at F Ln l0A ((l1I + (1 : Int32))) V) fun v7 => (if v2 < 0 then some ((0 : Int32)) else (if (16 : Int32) < v2 then some ((0 : Int32)) else (if v7 < 0 then some ((0 : Int32)) else (if v7 < ((1 : Int32) <<< (v2 &&& 31)) then (mLt (l1I + (2 : Int32)) fun x16 => (rec 0 Ln l0A (x16) V)) else some ((0 : Int32)))))))))
def mX8_areParts_go (F : Nat) : Nat → Nat → (Nat → Nat) → Nat → Int32 → mV → Option Int32
  | 0, _, _, _, _, _ => none
  | k' + 1, lab, Ln, l0A, l1I, V => if lab = 0 then mX8_areParts_b0 F (mX8_areParts_go F k') Ln l0A l1I V else none
def mX8_areParts_s (F : Nat) (rec : Nat → (Nat → Nat) → Nat → Int32 → mV → Option Int32) (Ln : Nat → Nat) (l0A : Nat) (V : mV) : Option Int32 :=
  (rec 0 Ln l0A ((0 : Int32)) V)
def mX8_areParts (F : Nat) (Ln : Nat → Nat) (l0A : Nat) (V : mV) : Option Int32 := mX8_areParts_s F (mX8_areParts_go F F) Ln l0A V
set_option maxHeartbeats 4000000 in
set_option maxRecDepth 100000 in
theorem LX8_areParts_go {α : Nat → Nat} {F : Nat} {v : Int32} {Φ : (Int32 → wPS → Prop)} : ∀ k' : Nat, (∀ (l0A : Nat) (l1I : Int32) (S : wPS) (V : mV) (Ln : Nat → Nat) , mRel α S Ln V → mK l0A = 9 → mX8_areParts_go F k' 0 Ln l0A l1I V = some v → (Φ v S) → rX8_areParts_go F k' 0 (α l0A) l1I S Φ) := by
  intro k'
  induction k' with
  | zero => exact (fun _ _ _ _ _ _ _ h _ => by cases h)
  | succ k' ih =>
    intro l0A l1I S V Ln R sl0A h k
    rw [mX8_areParts_go, if_pos rfl] at h
    rw [rX8_areParts_go, if_pos rfl]
    unfold mX8_areParts_b0 at h
    unfold rX8_areParts_b0
    refine mIf h (by rw [show gRow_count S (α l0A) = V.fI l0A 1 from (mg_I (i := l0A) R (mO9 sl0A) rfl 1)]) (fun c1 h => ?_) (fun c1 h => ?_)
    · cases h
      exact k
    · obtain ⟨v2, hv2, h⟩ := mBN_some h
      refine LX9_at hv2 R sl0A rfl rfl ?_
      obtain ⟨v7, hv7, h⟩ := mBN_some h
      refine LX9_at hv7 R sl0A rfl rfl ?_
      refine mIf h Iff.rfl (fun c2 h => ?_) (fun c2 h => ?_)
      · cases h
        exact k
      · refine mIf h Iff.rfl (fun c3 h => ?_) (fun c3 h => ?_)
        · cases h
          exact k
        · refine mIf h Iff.rfl (fun c4 h => ?_) (fun c4 h => ?_)
          · cases h
            exact k
          · refine mIf h Iff.rfl (fun c5 h => ?_) (fun c5 h => ?_)
            · refine mLet h rfl (fun x16 ex16 h => ?_)
              exact ih _ _ _ _ _ R sl0A h k
            · cases h
              exact k
set_option maxHeartbeats 4000000 in
set_option maxRecDepth 100000 in
theorem LX8_areParts {α : Nat → Nat} {F : Nat} {S : wPS} {Ln : Nat → Nat} {V : mV} {v : Int32} {Φ : (Int32 → wPS → Prop)} {l0Ax : Nat} {l0A : Nat} (h : mX8_areParts F Ln l0A V = some v) (R : mRel α S Ln V) (sl0A : mK l0A = 9) (el0A : l0Ax = α l0A) (k : (Φ v S)) : rX8_areParts F l0Ax S Φ := by
  have el0A := el0A.symm
  subst el0A
  have ih := LX8_areParts_go  (α := α) (F := F) (v := v) (Φ := Φ) F
  unfold mX8_areParts mX8_areParts_s at h
  unfold rX8_areParts rX8_areParts_s
  exact ih _ _ _ _ _ R sl0A h k
def mX8_areOrdered_b0 (F : Nat) (rec : Nat → (Nat → Nat) → Nat → Int32 → mV → Option Int32) (Ln : Nat → Nat) (l0A : Nat) (l1I : Int32) (V : mV) : Option Int32 :=
  (if (V.fI l0A 1) ≤ l1I then some ((1 : Int32)) else (mBN (mX9_at F Ln l0A ((l1I - (1 : Int32))) V) fun v2 => (mBN (mX9_at F Ln l0A (l1I) V) fun v7 => (mLt (((Int32.toInt64 v2) + (1 : Int64)) <<< ((v7).toInt64 &&& 63)) fun x12 => (mBN (mX9_at F Ln l0A ((l1I + (1 : Int32))) V) fun v13 => (mBN (mX9_at F Ln l0A ((l1I - (2 : Int32))) V) fun v18 => (mLt ((Int32.toInt64 v13) <<< ((v18).toInt64 &&& 63)) fun x23 => (if 0 ≤ (lg_cmp x23 x12) then (mLt (l1I + (2 : Int32)) fun x25 => (rec 0 Ln l0A (x25) V)) else some ((0 : Int32))))))))))
def mX8_areOrdered_go (F : Nat) : Nat → Nat → (Nat → Nat) → Nat → Int32 → mV → Option Int32
  | 0, _, _, _, _, _ => none
  | k' + 1, lab, Ln, l0A, l1I, V => if lab = 0 then mX8_areOrdered_b0 F (mX8_areOrdered_go F k') Ln l0A l1I V else none
def mX8_areOrdered_s (F : Nat) (rec : Nat → (Nat → Nat) → Nat → Int32 → mV → Option Int32) (Ln : Nat → Nat) (l0A : Nat) (V : mV) : Option Int32 :=
  (rec 0 Ln l0A ((2 : Int32)) V)
def mX8_areOrdered (F : Nat) (Ln : Nat → Nat) (l0A : Nat) (V : mV) : Option Int32 := mX8_areOrdered_s F (mX8_areOrdered_go F F) Ln l0A V
set_option maxHeartbeats 4000000 in
set_option maxRecDepth 100000 in
theorem LX8_areOrdered_go {α : Nat → Nat} {F : Nat} {v : Int32} {Φ : (Int32 → wPS → Prop)} : ∀ k' : Nat, (∀ (l0A : Nat) (l1I : Int32) (S : wPS) (V : mV) (Ln : Nat → Nat) , mRel α S Ln V → mK l0A = 9 → mX8_areOrdered_go F k' 0 Ln l0A l1I V = some v → (Φ v S) → rX8_areOrdered_go F k' 0 (α l0A) l1I S Φ) := by
  intro k'
  induction k' with
  | zero => exact (fun _ _ _ _ _ _ _ h _ => by cases h)
  | succ k' ih =>
    intro l0A l1I S V Ln R sl0A h k
    rw [mX8_areOrdered_go, if_pos rfl] at h
    rw [rX8_areOrdered_go, if_pos rfl]
    unfold mX8_areOrdered_b0 at h
    unfold rX8_areOrdered_b0
    refine mIf h (by rw [show gRow_count S (α l0A) = V.fI l0A 1 from (mg_I (i := l0A) R (mO9 sl0A) rfl 1)]) (fun c1 h => ?_) (fun c1 h => ?_)
    · cases h
      exact k
    · obtain ⟨v2, hv2, h⟩ := mBN_some h
      refine LX9_at hv2 R sl0A rfl rfl ?_
      obtain ⟨v7, hv7, h⟩ := mBN_some h
      refine LX9_at hv7 R sl0A rfl rfl ?_
      refine mLet h rfl (fun x12 ex12 h => ?_)
      obtain ⟨v13, hv13, h⟩ := mBN_some h
      refine LX9_at hv13 R sl0A rfl rfl ?_
      obtain ⟨v18, hv18, h⟩ := mBN_some h
      refine LX9_at hv18 R sl0A rfl rfl ?_
      refine mLet h rfl (fun x23 ex23 h => ?_)
      refine mIf h Iff.rfl (fun c2 h => ?_) (fun c2 h => ?_)
      · refine mLet h rfl (fun x25 ex25 h => ?_)
        exact ih _ _ _ _ _ R sl0A h k
      · cases h
        exact k
set_option maxHeartbeats 4000000 in
set_option maxRecDepth 100000 in
theorem LX8_areOrdered {α : Nat → Nat} {F : Nat} {S : wPS} {Ln : Nat → Nat} {V : mV} {v : Int32} {Φ : (Int32 → wPS → Prop)} {l0Ax : Nat} {l0A : Nat} (h : mX8_areOrdered F Ln l0A V = some v) (R : mRel α S Ln V) (sl0A : mK l0A = 9) (el0A : l0Ax = α l0A) (k : (Φ v S)) : rX8_areOrdered F l0Ax S Φ := by
  have el0A := el0A.symm
  subst el0A
  have ih := LX8_areOrdered_go  (α := α) (F := F) (v := v) (Φ := Φ) F
  unfold mX8_areOrdered mX8_areOrdered_s at h
  unfold rX8_areOrdered rX8_areOrdered_s
  exact ih _ _ _ _ _ R sl0A h k
end
