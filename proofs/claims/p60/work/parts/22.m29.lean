/-! LIFTED BY PROGRAM (lift.py): X10_judgeRows, X10_stepFrom, X10_judgeSteps, X11_put, X11_change, X11_kindOf, J0_indexOf_0f7a4. -/
section
def mX10_judgeRows_b0 (F : Nat) (rec : Nat → (Nat → Nat) → Nat → Int32 → Int32 → mV → Option (Int32 × mV)) (Ln : Nat → Nat) (l2A : Nat) (l3I : Int32) (l4I : Int32) (V : mV) : Option (Int32 × mV) :=
  (if (V.fI 7 10) ≤ l4I then (mBN (mX10_codeOf F 77 (l3I) V) fun v2 => (mBN (mX9_holds F Ln l2A ((1 : Int32)) (v2) V) fun v7 => (if v7 = 0 then some ((2 : Int32), V) else (rec 1 Ln l2A (l3I) ((1 : Int32)) V)))) else (if l4I < 0 ∨ 6 ≤ (l4I).toNatClampNeg then none else (mLt (mI V 77 (l4I) (l4I)) fun V14 => (mLt (l4I + (1 : Int32)) fun x15 => (rec 0 Ln l2A (l3I) (x15) V14)))))
def mX10_judgeRows_b1 (F : Nat) (rec : Nat → (Nat → Nat) → Nat → Int32 → Int32 → mV → Option (Int32 × mV)) (Ln : Nat → Nat) (l2A : Nat) (l3I : Int32) (l4I : Int32) (V : mV) : Option (Int32 × mV) :=
  (if (V.fI l2A 1) ≤ l4I then (mBN (mX10_codeOf F 76 (l3I) V) fun v17 => (mBN (mX9_holds F Ln l2A ((1 : Int32)) (v17) V) fun v22 => (if v22 = 0 then some ((0 : Int32), V) else some ((4 : Int32), V)))) else (mBW (mX10_isLedWithin F Ln l2A (l4I) (l3I) V) fun v28 V29 => (if v28 = 0 then some ((3 : Int32), V29) else (mLt (l4I + (1 : Int32)) fun x34 => (rec 1 Ln l2A (l3I) (x34) V29)))))
def mX10_judgeRows_go (F : Nat) : Nat → Nat → (Nat → Nat) → Nat → Int32 → Int32 → mV → Option (Int32 × mV)
  | 0, _, _, _, _, _, _ => none
  | k' + 1, lab, Ln, l2A, l3I, l4I, V => if lab = 0 then mX10_judgeRows_b0 F (mX10_judgeRows_go F k') Ln l2A l3I l4I V else if lab = 1 then mX10_judgeRows_b1 F (mX10_judgeRows_go F k') Ln l2A l3I l4I V else none
def mX10_judgeRows_s (F : Nat) (rec : Nat → (Nat → Nat) → Nat → Int32 → Int32 → mV → Option (Int32 × mV)) (Ln : Nat → Nat) (l1A : Nat) (l2A : Nat) (V : mV) : Option (Int32 × mV) :=
  (mBW (mX10_loadItems F l1A V) fun v35 V36 => (mBN (mX9_at F Ln l2A ((0 : Int32)) V36) fun v40 => (if (V36.fI l2A 1) = 0 then some ((1 : Int32), V36) else (if v40 < (1 : Int32) then some ((1 : Int32), V36) else (if (V36.fI 7 10) < v40 then some ((1 : Int32), V36) else (mBN (mX9_isRising F Ln l2A ((1 : Int32)) V36) fun v48 => (if v48 = 0 then some ((1 : Int32), V36) else (mBW (mX10_areRowsOf F Ln l2A (v40) V36) fun v54 V55 => (if v54 = 0 then some ((1 : Int32), V55) else (rec 0 Ln l2A (v40) ((0 : Int32)) V55))))))))))
def mX10_judgeRows (F : Nat) (Ln : Nat → Nat) (l1A : Nat) (l2A : Nat) (V : mV) : Option (Int32 × mV) := mX10_judgeRows_s F (mX10_judgeRows_go F F) Ln l1A l2A V
set_option maxHeartbeats 4000000 in
set_option maxRecDepth 100000 in
theorem LX10_judgeRows_go {α : Nat → Nat} {F : Nat} {v : Int32} {V1 : mV} {Φ : (Int32 → wPS → Prop)} : ∀ k' : Nat, (∀ (l2A : Nat) (l3I : Int32) (l4I : Int32) (S : wPS) (V : mV) (Ln : Nat → Nat) , mRel α S Ln V → mK l2A = 9 → mX10_judgeRows_go F k' 0 Ln l2A l3I l4I V = some (v, V1) → (∀ S1, mRel α S1 Ln V1 → mFr α S S1 → Φ v S1) → rX10_judgeRows_go F k' 0 (α 7) (α l2A) l3I l4I S Φ) ∧ (∀ (l2A : Nat) (l3I : Int32) (l4I : Int32) (S : wPS) (V : mV) (Ln : Nat → Nat) , mRel α S Ln V → mK l2A = 9 → mX10_judgeRows_go F k' 1 Ln l2A l3I l4I V = some (v, V1) → (∀ S1, mRel α S1 Ln V1 → mFr α S S1 → Φ v S1) → rX10_judgeRows_go F k' 1 (α 7) (α l2A) l3I l4I S Φ) := by
  intro k'
  induction k' with
  | zero => exact ⟨(fun _ _ _ _ _ _ _ _ h _ => by cases h), (fun _ _ _ _ _ _ _ _ h _ => by cases h)⟩
  | succ k' ih =>
    refine ⟨?_, ?_⟩
    · intro l2A l3I l4I S V Ln R sl2A h k
      rw [mX10_judgeRows_go, if_pos rfl] at h
      rw [rX10_judgeRows_go, if_pos rfl]
      unfold mX10_judgeRows_b0 at h
      unfold rX10_judgeRows_b0
      refine mIf h (by rw [show gWords_size S (α 7) = V.fI 7 10 from (mg_I (i := 7) R (by decide) rfl 10)]) (fun c1 h => ?_) (fun c1 h => ?_)
      · obtain ⟨v2, hv2, h⟩ := mBN_some h
        refine LX10_codeOf hv2 R rfl (mg_A (t := 77) R rfl rfl) rfl ?_
        obtain ⟨v7, hv7, h⟩ := mBN_some h
        refine LX9_holds hv7 R sl2A rfl rfl rfl ?_
        refine mIf h Iff.rfl (fun c2 h => ?_) (fun c2 h => ?_)
        · obtain ⟨rfl, rfl⟩ := mRW h
          exact k _ R mFr.rf
        · exact ih.2 _ _ _ _ _ _ R sl2A h (fun S1 R1 F1 => k S1 R1 F1)
      · refine mGd h (by rw [show S.len (wkAd (gWords_points S (α 7))) = 6 from (mg_len (i := 77) R (mA13 rfl) (mg_A (t := 77) R rfl rfl))]) (fun c3 h => ?_)
        obtain ⟨V14, eV14, h⟩ := mLt_some h
        refine mU_I eV14 R (mA13 rfl) (mg_A (t := 77) R rfl rfl) rfl rfl (fun S14 R14 F14 => ?_)
        refine mLet h rfl (fun x15 ex15 h => ?_)
        exact ih.1 _ _ _ _ _ _ R14 sl2A h (fun S1 R1 F1 => k S1 R1 (F14.tr F1))
    · intro l2A l3I l4I S V Ln R sl2A h k
      rw [mX10_judgeRows_go, if_neg (by decide), if_pos rfl] at h
      rw [rX10_judgeRows_go, if_neg (by decide), if_pos rfl]
      unfold mX10_judgeRows_b1 at h
      unfold rX10_judgeRows_b1
      refine mIf h (by rw [show gRow_count S (α l2A) = V.fI l2A 1 from (mg_I (i := l2A) R (mO9 sl2A) rfl 1)]) (fun c4 h => ?_) (fun c4 h => ?_)
      · obtain ⟨v17, hv17, h⟩ := mBN_some h
        refine LX10_codeOf hv17 R rfl (mg_A (t := 76) R rfl rfl) rfl ?_
        obtain ⟨v22, hv22, h⟩ := mBN_some h
        refine LX9_holds hv22 R sl2A rfl rfl rfl ?_
        refine mIf h Iff.rfl (fun c5 h => ?_) (fun c5 h => ?_)
        · obtain ⟨rfl, rfl⟩ := mRW h
          exact k _ R mFr.rf
        · obtain ⟨rfl, rfl⟩ := mRW h
          exact k _ R mFr.rf
      · obtain ⟨v28, V29, hv28, h⟩ := mBW_some h
        refine LX10_isLedWithin hv28 R sl2A rfl rfl rfl rfl (fun S29 R29 F29 => ?_)
        refine mIf h Iff.rfl (fun c6 h => ?_) (fun c6 h => ?_)
        · obtain ⟨rfl, rfl⟩ := mRW h
          exact k _ R29 F29
        · refine mLet h rfl (fun x34 ex34 h => ?_)
          exact ih.2 _ _ _ _ _ _ R29 sl2A h (fun S1 R1 F1 => k S1 R1 (F29.tr F1))
set_option maxHeartbeats 4000000 in
set_option maxRecDepth 100000 in
theorem LX10_judgeRows {α : Nat → Nat} {F : Nat} {S : wPS} {Ln : Nat → Nat} {V V1 : mV} {v : Int32} {Φ : (Int32 → wPS → Prop)} {l0Ax : Nat} {l1Ax : Nat} {l1A : Nat} {l2Ax : Nat} {l2A : Nat} (h : mX10_judgeRows F Ln l1A l2A V = some (v, V1)) (R : mRel α S Ln V) (sl1A : mK l1A = 3) (sl2A : mK l2A = 9) (el0A : l0Ax = α 7) (el1A : l1Ax = α l1A) (el2A : l2Ax = α l2A) (k : (∀ S1, mRel α S1 Ln V1 → mFr α S S1 → Φ v S1)) : rX10_judgeRows F l0Ax l1Ax l2Ax S Φ := by
  have el0A := el0A.symm
  subst el0A
  have el1A := el1A.symm
  subst el1A
  have el2A := el2A.symm
  subst el2A
  have ih := LX10_judgeRows_go  (α := α) (F := F) (v := v) (Φ := Φ) (V1 := V1) F
  unfold mX10_judgeRows mX10_judgeRows_s at h
  unfold rX10_judgeRows rX10_judgeRows_s
  obtain ⟨v35, V36, hv35, h⟩ := mBW_some h
  refine LX10_loadItems hv35 R sl1A rfl rfl (fun S36 R36 F36 => ?_)
  obtain ⟨v40, hv40, h⟩ := mBN_some h
  refine LX9_at hv40 R36 sl2A rfl rfl ?_
  refine mIf h (by rw [show gRow_count S36 (α l2A) = V36.fI l2A 1 from (mg_I (i := l2A) R36 (mO9 sl2A) rfl 1)]) (fun c7 h => ?_) (fun c7 h => ?_)
  · obtain ⟨rfl, rfl⟩ := mRW h
    exact k _ R36 F36
  · refine mIf h Iff.rfl (fun c8 h => ?_) (fun c8 h => ?_)
    · obtain ⟨rfl, rfl⟩ := mRW h
      exact k _ R36 F36
    · refine mIf h (by rw [show gWords_size S36 (α 7) = V36.fI 7 10 from (mg_I (i := 7) R36 (by decide) rfl 10)]) (fun c9 h => ?_) (fun c9 h => ?_)
      · obtain ⟨rfl, rfl⟩ := mRW h
        exact k _ R36 F36
      · obtain ⟨v48, hv48, h⟩ := mBN_some h
        refine LX9_isRising hv48 R36 sl2A rfl rfl ?_
        refine mIf h Iff.rfl (fun c10 h => ?_) (fun c10 h => ?_)
        · obtain ⟨rfl, rfl⟩ := mRW h
          exact k _ R36 F36
        · obtain ⟨v54, V55, hv54, h⟩ := mBW_some h
          refine LX10_areRowsOf hv54 R36 sl2A rfl rfl rfl (fun S55 R55 F55 => ?_)
          refine mIf h Iff.rfl (fun c11 h => ?_) (fun c11 h => ?_)
          · obtain ⟨rfl, rfl⟩ := mRW h
            exact k _ R55 (F36.tr F55)
          · exact ih.1 _ _ _ _ _ _ R55 sl2A h (fun S1 R1 F1 => k S1 R1 (F36.tr (F55.tr F1)))
def mX10_stepFrom_b0 (F : Nat) (rec : Nat → Nat → Int32 → Int32 → Int32 → mV → Option (Int32 × mV)) (l1A : Nat) (l3I : Int32) (l4I : Int32) (V : mV) : Option (Int32 × mV) :=
  (if l3I ≤ l4I then some (l3I, V) else (if l4I < 0 ∨ 720 ≤ (l4I).toNatClampNeg then none else (mBW (mX10_findNext F l1A ((V.rI 79 (l4I).toNatClampNeg)) V) fun v3 V4 => (rec 1 l1A (l3I) (l4I) ((0 : Int32)) V4))))
def mX10_stepFrom_b1 (F : Nat) (rec : Nat → Nat → Int32 → Int32 → Int32 → mV → Option (Int32 × mV)) (l1A : Nat) (l3I : Int32) (l4I : Int32) (l5I : Int32) (V : mV) : Option (Int32 × mV) :=
  (if (V.fI 7 9) ≤ l5I then (mLt (l4I + (1 : Int32)) fun x9 => (rec 0 l1A (l3I) (x9) 0 V)) else (if l5I < 0 ∨ 96 ≤ (l5I).toNatClampNeg then none else (if (V.rI 83 (l5I).toNatClampNeg) < 0 ∨ 256 ≤ ((V.rI 83 (l5I).toNatClampNeg)).toNatClampNeg then none else (if 0 ≤ (V.rI 82 ((V.rI 83 (l5I).toNatClampNeg)).toNatClampNeg) then (mLt (l5I + (1 : Int32)) fun x13 => (rec 1 l1A (l3I) (l4I) (x13) V)) else (if (256 : Int32) ≤ l3I then (mLt (l5I + (1 : Int32)) fun x15 => (rec 1 l1A (l3I) (l4I) (x15) V)) else (if l5I < 0 ∨ 96 ≤ (l5I).toNatClampNeg then none else (if l4I < 0 ∨ 720 ≤ (l4I).toNatClampNeg then none else (if (V.rI 79 (l4I).toNatClampNeg) < 0 ∨ 256 ≤ ((V.rI 79 (l4I).toNatClampNeg)).toNatClampNeg then none else (if (V.rI 83 (l5I).toNatClampNeg) < 0 ∨ 256 ≤ ((V.rI 83 (l5I).toNatClampNeg)).toNatClampNeg then none else (mLt (mI V 82 ((V.rI 83 (l5I).toNatClampNeg)) (((V.rI 82 ((V.rI 79 (l4I).toNatClampNeg)).toNatClampNeg) + (1 : Int32)))) fun V20 => (if l5I < 0 ∨ 96 ≤ (l5I).toNatClampNeg then none else (if l3I < 0 ∨ 720 ≤ (l3I).toNatClampNeg then none else (mLt (mI V20 79 (l3I) ((V20.rI 83 (l5I).toNatClampNeg))) fun V23 => (mLt (l3I + (1 : Int32)) fun x24 => (mLt (l5I + (1 : Int32)) fun x25 => (rec 1 l1A (x24) (l4I) (x25) V23))))))))))))))))
def mX10_stepFrom_go (F : Nat) : Nat → Nat → Nat → Int32 → Int32 → Int32 → mV → Option (Int32 × mV)
  | 0, _, _, _, _, _, _ => none
  | k' + 1, lab, l1A, l3I, l4I, l5I, V => if lab = 0 then mX10_stepFrom_b0 F (mX10_stepFrom_go F k') l1A l3I l4I V else if lab = 1 then mX10_stepFrom_b1 F (mX10_stepFrom_go F k') l1A l3I l4I l5I V else none
def mX10_stepFrom_s (F : Nat) (rec : Nat → Nat → Int32 → Int32 → Int32 → mV → Option (Int32 × mV)) (l1A : Nat) (l2I : Int32) (V : mV) : Option (Int32 × mV) :=
  (mBW (mJ7_fill_53178 F 82 ((-1 : Int32)) V) fun v26 V27 => (if l2I < 0 ∨ 256 ≤ (l2I).toNatClampNeg then none else (mLt (mI V27 82 (l2I) ((0 : Int32))) fun V32 => (if (0 : Int32) < 0 ∨ 720 ≤ ((0 : Int32)).toNatClampNeg then none else (mLt (mI V32 79 ((0 : Int32)) (l2I)) fun V34 => (rec 0 l1A ((1 : Int32)) ((0 : Int32)) 0 V34))))))
def mX10_stepFrom (F : Nat) (l1A : Nat) (l2I : Int32) (V : mV) : Option (Int32 × mV) := mX10_stepFrom_s F (mX10_stepFrom_go F F) l1A l2I V
set_option maxHeartbeats 4000000 in
set_option maxRecDepth 100000 in
theorem LX10_stepFrom_go {α : Nat → Nat} {F : Nat} {Ln : Nat → Nat} {v : Int32} {V1 : mV} {Φ : (Int32 → wPS → Prop)} : ∀ k' : Nat, (∀ (l1A : Nat) (l3I : Int32) (l4I : Int32) (S : wPS) (V : mV) , mRel α S Ln V → mK l1A = 3 → mX10_stepFrom_go F k' 0 l1A l3I l4I 0 V = some (v, V1) → (∀ S1, mRel α S1 Ln V1 → mFr α S S1 → Φ v S1) → rX10_stepFrom_go F k' 0 (α 7) (α l1A) l3I l4I 0 S Φ) ∧ (∀ (l1A : Nat) (l3I : Int32) (l4I : Int32) (l5I : Int32) (S : wPS) (V : mV) , mRel α S Ln V → mK l1A = 3 → mX10_stepFrom_go F k' 1 l1A l3I l4I l5I V = some (v, V1) → (∀ S1, mRel α S1 Ln V1 → mFr α S S1 → Φ v S1) → rX10_stepFrom_go F k' 1 (α 7) (α l1A) l3I l4I l5I S Φ) := by
  intro k'
  induction k' with
  | zero => exact ⟨(fun _ _ _ _ _ _ _ h _ => by cases h), (fun _ _ _ _ _ _ _ _ h _ => by cases h)⟩
  | succ k' ih =>
    refine ⟨?_, ?_⟩
    · intro l1A l3I l4I S V R sl1A h k
      rw [mX10_stepFrom_go, if_pos rfl] at h
      rw [rX10_stepFrom_go, if_pos rfl]
      unfold mX10_stepFrom_b0 at h
      unfold rX10_stepFrom_b0
      refine mIf h Iff.rfl (fun c1 h => ?_) (fun c1 h => ?_)
      · obtain ⟨rfl, rfl⟩ := mRW h
        exact k _ R mFr.rf
      · refine mGd h (by rw [show S.len (wkAd (gWords_queue S (α 7))) = 720 from (mg_len (i := 79) R (mA13 rfl) (mg_A (t := 79) R rfl rfl))]) (fun c2 h => ?_)
        obtain ⟨v3, V4, hv3, h⟩ := mBW_some h
        refine LX10_findNext hv3 R sl1A rfl rfl (by rw [show S.rI (wkAd (gWords_queue S (α 7))) (l4I).toNatClampNeg = V.rI 79 (l4I).toNatClampNeg from (mg_rI (i := 79) R (mA13 rfl) (mg_A (t := 79) R rfl rfl) rfl)]) (fun S4 R4 F4 => ?_)
        exact ih.2 _ _ _ _ _ _ R4 sl1A h (fun S1 R1 F1 => k S1 R1 (F4.tr F1))
    · intro l1A l3I l4I l5I S V R sl1A h k
      rw [mX10_stepFrom_go, if_neg (by decide), if_pos rfl] at h
      rw [rX10_stepFrom_go, if_neg (by decide), if_pos rfl]
      unfold mX10_stepFrom_b1 at h
      unfold rX10_stepFrom_b1
      refine mIf h (by rw [show gWords_nextCount S (α 7) = V.fI 7 9 from (mg_I (i := 7) R (by decide) rfl 9)]) (fun c3 h => ?_) (fun c3 h => ?_)
      · refine mLet h rfl (fun x9 ex9 h => ?_)
        exact ih.1 _ _ _ _ _ R sl1A h (fun S1 R1 F1 => k S1 R1 F1)
      · refine mGd h (by rw [show S.len (wkAd (gWords_next S (α 7))) = 96 from (mg_len (i := 83) R (mA13 rfl) (mg_A (t := 83) R rfl rfl))]) (fun c4 h => ?_)
        refine mGd h (by rw [show S.rI (wkAd (gWords_next S (α 7))) (l5I).toNatClampNeg = V.rI 83 (l5I).toNatClampNeg from (mg_rI (i := 83) R (mA13 rfl) (mg_A (t := 83) R rfl rfl) rfl), show S.len (wkAd (gWords_steps S (α 7))) = 256 from (mg_len (i := 82) R (mA13 rfl) (mg_A (t := 82) R rfl rfl))]) (fun c5 h => ?_)
        refine mIf h (by rw [show S.rI (wkAd (gWords_steps S (α 7))) ((S.rI (wkAd (gWords_next S (α 7))) (l5I).toNatClampNeg)).toNatClampNeg = V.rI 82 ((V.rI 83 (l5I).toNatClampNeg)).toNatClampNeg from (mg_rI (i := 82) R (mA13 rfl) (mg_A (t := 82) R rfl rfl) (by rw [show S.rI (wkAd (gWords_next S (α 7))) (l5I).toNatClampNeg = V.rI 83 (l5I).toNatClampNeg from (mg_rI (i := 83) R (mA13 rfl) (mg_A (t := 83) R rfl rfl) rfl)]))]) (fun c6 h => ?_) (fun c6 h => ?_)
        · refine mLet h rfl (fun x13 ex13 h => ?_)
          exact ih.2 _ _ _ _ _ _ R sl1A h (fun S1 R1 F1 => k S1 R1 F1)
        · refine mIf h Iff.rfl (fun c7 h => ?_) (fun c7 h => ?_)
          · refine mLet h rfl (fun x15 ex15 h => ?_)
            exact ih.2 _ _ _ _ _ _ R sl1A h (fun S1 R1 F1 => k S1 R1 F1)
          · refine mGd h (by rw [show S.len (wkAd (gWords_next S (α 7))) = 96 from (mg_len (i := 83) R (mA13 rfl) (mg_A (t := 83) R rfl rfl))]) (fun c8 h => ?_)
            refine mGd h (by rw [show S.len (wkAd (gWords_queue S (α 7))) = 720 from (mg_len (i := 79) R (mA13 rfl) (mg_A (t := 79) R rfl rfl))]) (fun c9 h => ?_)
            refine mGd h (by rw [show S.rI (wkAd (gWords_queue S (α 7))) (l4I).toNatClampNeg = V.rI 79 (l4I).toNatClampNeg from (mg_rI (i := 79) R (mA13 rfl) (mg_A (t := 79) R rfl rfl) rfl), show S.len (wkAd (gWords_steps S (α 7))) = 256 from (mg_len (i := 82) R (mA13 rfl) (mg_A (t := 82) R rfl rfl))]) (fun c10 h => ?_)
            refine mGd h (by rw [show S.rI (wkAd (gWords_next S (α 7))) (l5I).toNatClampNeg = V.rI 83 (l5I).toNatClampNeg from (mg_rI (i := 83) R (mA13 rfl) (mg_A (t := 83) R rfl rfl) rfl), show S.len (wkAd (gWords_steps S (α 7))) = 256 from (mg_len (i := 82) R (mA13 rfl) (mg_A (t := 82) R rfl rfl))]) (fun c11 h => ?_)
            obtain ⟨V20, eV20, h⟩ := mLt_some h
            refine mU_I eV20 R (mA13 rfl) (mg_A (t := 82) R rfl rfl) (by rw [show S.rI (wkAd (gWords_next S (α 7))) (l5I).toNatClampNeg = V.rI 83 (l5I).toNatClampNeg from (mg_rI (i := 83) R (mA13 rfl) (mg_A (t := 83) R rfl rfl) rfl)]) (by rw [show S.rI (wkAd (gWords_steps S (α 7))) ((S.rI (wkAd (gWords_queue S (α 7))) (l4I).toNatClampNeg)).toNatClampNeg = V.rI 82 ((V.rI 79 (l4I).toNatClampNeg)).toNatClampNeg from (mg_rI (i := 82) R (mA13 rfl) (mg_A (t := 82) R rfl rfl) (by rw [show S.rI (wkAd (gWords_queue S (α 7))) (l4I).toNatClampNeg = V.rI 79 (l4I).toNatClampNeg from (mg_rI (i := 79) R (mA13 rfl) (mg_A (t := 79) R rfl rfl) rfl)]))]) (fun S20 R20 F20 => ?_)
            refine mGd h (by rw [show S20.len (wkAd (gWords_next S20 (α 7))) = 96 from (mg_len (i := 83) R20 (mA13 rfl) (mg_A (t := 83) R20 rfl rfl))]) (fun c12 h => ?_)
            refine mGd h (by rw [show S20.len (wkAd (gWords_queue S20 (α 7))) = 720 from (mg_len (i := 79) R20 (mA13 rfl) (mg_A (t := 79) R20 rfl rfl))]) (fun c13 h => ?_)
            obtain ⟨V23, eV23, h⟩ := mLt_some h
            refine mU_I eV23 R20 (mA13 rfl) (mg_A (t := 79) R20 rfl rfl) rfl (by rw [show S20.rI (wkAd (gWords_next S20 (α 7))) (l5I).toNatClampNeg = V20.rI 83 (l5I).toNatClampNeg from (mg_rI (i := 83) R20 (mA13 rfl) (mg_A (t := 83) R20 rfl rfl) rfl)]) (fun S23 R23 F23 => ?_)
            refine mLet h rfl (fun x24 ex24 h => ?_)
            refine mLet h rfl (fun x25 ex25 h => ?_)
            exact ih.2 _ _ _ _ _ _ R23 sl1A h (fun S1 R1 F1 => k S1 R1 (F20.tr (F23.tr F1)))
set_option maxHeartbeats 4000000 in
set_option maxRecDepth 100000 in
theorem LX10_stepFrom {α : Nat → Nat} {F : Nat} {S : wPS} {Ln : Nat → Nat} {V V1 : mV} {v : Int32} {Φ : (Int32 → wPS → Prop)} {l0Ax : Nat} {l1Ax : Nat} {l1A : Nat} {l2Ix l2I : Int32} (h : mX10_stepFrom F l1A l2I V = some (v, V1)) (R : mRel α S Ln V) (sl1A : mK l1A = 3) (el0A : l0Ax = α 7) (el1A : l1Ax = α l1A) (el2I : l2Ix = l2I) (k : (∀ S1, mRel α S1 Ln V1 → mFr α S S1 → Φ v S1)) : rX10_stepFrom F l0Ax l1Ax l2Ix S Φ := by
  have el0A := el0A.symm
  subst el0A
  have el1A := el1A.symm
  subst el1A
  have el2I := el2I.symm
  subst el2I
  have ih := LX10_stepFrom_go  (α := α) (F := F) (v := v) (Ln := Ln) (Φ := Φ) (V1 := V1) F
  unfold mX10_stepFrom mX10_stepFrom_s at h
  unfold rX10_stepFrom rX10_stepFrom_s
  obtain ⟨v26, V27, hv26, h⟩ := mBW_some h
  refine LJ7_fill_53178 hv26 R rfl (mg_A (t := 82) R rfl rfl) rfl (fun S27 R27 F27 => ?_)
  refine mGd h (by rw [show S27.len (wkAd (gWords_steps S27 (α 7))) = 256 from (mg_len (i := 82) R27 (mA13 rfl) (mg_A (t := 82) R27 rfl rfl))]) (fun c14 h => ?_)
  obtain ⟨V32, eV32, h⟩ := mLt_some h
  refine mU_I eV32 R27 (mA13 rfl) (mg_A (t := 82) R27 rfl rfl) rfl rfl (fun S32 R32 F32 => ?_)
  refine mGd h (by rw [show S32.len (wkAd (gWords_queue S32 (α 7))) = 720 from (mg_len (i := 79) R32 (mA13 rfl) (mg_A (t := 79) R32 rfl rfl))]) (fun c15 h => ?_)
  obtain ⟨V34, eV34, h⟩ := mLt_some h
  refine mU_I eV34 R32 (mA13 rfl) (mg_A (t := 79) R32 rfl rfl) rfl rfl (fun S34 R34 F34 => ?_)
  exact ih.1 _ _ _ _ _ R34 sl1A h (fun S1 R1 F1 => k S1 R1 (F27.tr (F32.tr (F34.tr F1))))
def mX10_judgeSteps_b0 (F : Nat) (rec : Nat → (Nat → Nat) → Nat → Nat → Int32 → Int32 → mV → Option (Int32 × mV)) (Ln : Nat → Nat) (l1A : Nat) (l2A : Nat) (l3I : Int32) (l4I : Int32) (V : mV) : Option (Int32 × mV) :=
  (if l3I ≤ l4I then some ((0 : Int32), V) else (mBN (mX9_at F Ln l2A (l4I) V) fun v2 => (mBN (mX9_at F Ln l2A ((l4I + (1 : Int32))) V) fun v7 => (mBW (mX10_isNext F l1A (v2) (v7) V) fun v12 V13 => (if v12 = 0 then some ((2 : Int32), V13) else (mLt (l4I + (1 : Int32)) fun x18 => (rec 0 Ln l1A l2A (l3I) (x18) V13)))))))
def mX10_judgeSteps_go (F : Nat) : Nat → Nat → (Nat → Nat) → Nat → Nat → Int32 → Int32 → mV → Option (Int32 × mV)
  | 0, _, _, _, _, _, _, _ => none
  | k' + 1, lab, Ln, l1A, l2A, l3I, l4I, V => if lab = 0 then mX10_judgeSteps_b0 F (mX10_judgeSteps_go F k') Ln l1A l2A l3I l4I V else none
def mX10_judgeSteps_s (F : Nat) (rec : Nat → (Nat → Nat) → Nat → Nat → Int32 → Int32 → mV → Option (Int32 × mV)) (Ln : Nat → Nat) (l1A : Nat) (l2A : Nat) (V : mV) : Option (Int32 × mV) :=
  (mLt ((V.fI l2A 1) - (1 : Int32)) fun x19 => (if x19 < 0 then some ((1 : Int32), V) else (mBN (mX10_beyondWords F l1A V) fun v21 => (mBN (mX9_liesWithin F Ln l2A ((0 : Int32)) ((1 : Int32)) ((v21 - (1 : Int32))) V) fun v26 => (if v26 = 0 then some ((1 : Int32), V) else (mBN (mX9_at F Ln l2A ((0 : Int32)) V) fun v32 => (mBN (mX10_firstWord F l1A V) fun v37 => (if v32 = v37 then (mBN (mX9_at F Ln l2A (x19) V) fun v43 => (mBN (mX10_secondWord F l1A V) fun v48 => (if v43 = v48 then (rec 0 Ln l1A l2A (x19) ((0 : Int32)) V) else some ((1 : Int32), V)))) else some ((1 : Int32), V)))))))))
def mX10_judgeSteps (F : Nat) (Ln : Nat → Nat) (l1A : Nat) (l2A : Nat) (V : mV) : Option (Int32 × mV) := mX10_judgeSteps_s F (mX10_judgeSteps_go F F) Ln l1A l2A V
set_option maxHeartbeats 4000000 in
set_option maxRecDepth 100000 in
theorem LX10_judgeSteps_go {α : Nat → Nat} {F : Nat} {v : Int32} {V1 : mV} {Φ : (Int32 → wPS → Prop)} : ∀ k' : Nat, (∀ (l1A : Nat) (l2A : Nat) (l3I : Int32) (l4I : Int32) (S : wPS) (V : mV) (Ln : Nat → Nat) , mRel α S Ln V → mK l1A = 3 → mK l2A = 9 → mX10_judgeSteps_go F k' 0 Ln l1A l2A l3I l4I V = some (v, V1) → (∀ S1, mRel α S1 Ln V1 → mFr α S S1 → Φ v S1) → rX10_judgeSteps_go F k' 0 (α 7) (α l1A) (α l2A) l3I l4I S Φ) := by
  intro k'
  induction k' with
  | zero => exact (fun _ _ _ _ _ _ _ _ _ _ h _ => by cases h)
  | succ k' ih =>
    intro l1A l2A l3I l4I S V Ln R sl1A sl2A h k
    rw [mX10_judgeSteps_go, if_pos rfl] at h
    rw [rX10_judgeSteps_go, if_pos rfl]
    unfold mX10_judgeSteps_b0 at h
    unfold rX10_judgeSteps_b0
    refine mIf h Iff.rfl (fun c1 h => ?_) (fun c1 h => ?_)
    · obtain ⟨rfl, rfl⟩ := mRW h
      exact k _ R mFr.rf
    · obtain ⟨v2, hv2, h⟩ := mBN_some h
      refine LX9_at hv2 R sl2A rfl rfl ?_
      obtain ⟨v7, hv7, h⟩ := mBN_some h
      refine LX9_at hv7 R sl2A rfl rfl ?_
      obtain ⟨v12, V13, hv12, h⟩ := mBW_some h
      refine LX10_isNext hv12 R sl1A rfl rfl rfl rfl (fun S13 R13 F13 => ?_)
      refine mIf h Iff.rfl (fun c2 h => ?_) (fun c2 h => ?_)
      · obtain ⟨rfl, rfl⟩ := mRW h
        exact k _ R13 F13
      · refine mLet h rfl (fun x18 ex18 h => ?_)
        exact ih _ _ _ _ _ _ _ R13 sl1A sl2A h (fun S1 R1 F1 => k S1 R1 (F13.tr F1))
set_option maxHeartbeats 4000000 in
set_option maxRecDepth 100000 in
theorem LX10_judgeSteps {α : Nat → Nat} {F : Nat} {S : wPS} {Ln : Nat → Nat} {V V1 : mV} {v : Int32} {Φ : (Int32 → wPS → Prop)} {l0Ax : Nat} {l1Ax : Nat} {l1A : Nat} {l2Ax : Nat} {l2A : Nat} (h : mX10_judgeSteps F Ln l1A l2A V = some (v, V1)) (R : mRel α S Ln V) (sl1A : mK l1A = 3) (sl2A : mK l2A = 9) (el0A : l0Ax = α 7) (el1A : l1Ax = α l1A) (el2A : l2Ax = α l2A) (k : (∀ S1, mRel α S1 Ln V1 → mFr α S S1 → Φ v S1)) : rX10_judgeSteps F l0Ax l1Ax l2Ax S Φ := by
  have el0A := el0A.symm
  subst el0A
  have el1A := el1A.symm
  subst el1A
  have el2A := el2A.symm
  subst el2A
  have ih := LX10_judgeSteps_go  (α := α) (F := F) (v := v) (Φ := Φ) (V1 := V1) F
  unfold mX10_judgeSteps mX10_judgeSteps_s at h
  unfold rX10_judgeSteps rX10_judgeSteps_s
  refine mLet h (by rw [show gRow_count S (α l2A) = V.fI l2A 1 from (mg_I (i := l2A) R (mO9 sl2A) rfl 1)]) (fun x19 ex19 h => ?_)
  refine mIf h Iff.rfl (fun c3 h => ?_) (fun c3 h => ?_)
  · obtain ⟨rfl, rfl⟩ := mRW h
    exact k _ R mFr.rf
  · obtain ⟨v21, hv21, h⟩ := mBN_some h
    refine LX10_beyondWords hv21 R sl1A rfl ?_
    obtain ⟨v26, hv26, h⟩ := mBN_some h
    refine LX9_liesWithin hv26 R sl2A rfl rfl rfl rfl ?_
    refine mIf h Iff.rfl (fun c4 h => ?_) (fun c4 h => ?_)
    · obtain ⟨rfl, rfl⟩ := mRW h
      exact k _ R mFr.rf
    · obtain ⟨v32, hv32, h⟩ := mBN_some h
      refine LX9_at hv32 R sl2A rfl rfl ?_
      obtain ⟨v37, hv37, h⟩ := mBN_some h
      refine LX10_firstWord hv37 R sl1A rfl ?_
      refine mIf h Iff.rfl (fun c5 h => ?_) (fun c5 h => ?_)
      · obtain ⟨v43, hv43, h⟩ := mBN_some h
        refine LX9_at hv43 R sl2A rfl rfl ?_
        obtain ⟨v48, hv48, h⟩ := mBN_some h
        refine LX10_secondWord hv48 R sl1A rfl ?_
        refine mIf h Iff.rfl (fun c6 h => ?_) (fun c6 h => ?_)
        · exact ih _ _ _ _ _ _ _ R sl1A sl2A h (fun S1 R1 F1 => k S1 R1 F1)
        · obtain ⟨rfl, rfl⟩ := mRW h
          exact k _ R mFr.rf
      · obtain ⟨rfl, rfl⟩ := mRW h
        exact k _ R mFr.rf
def mX11_put (F : Nat) (Ln : Nat → Nat) (l1I : Int32) (l2I : Int32) (l3I : Int32) (l4I : Int32) (l5I : Int32) (l6I : Int32) (V : mV) : Option ((String ⊕ Int32) × (Nat → Nat) × mV) :=
  (mBT (mX11_entryAt F Ln (l1I) V) (fun v1 L2 V2 => (mBW (mX11_tellNumbers F (l2I) (l3I) (l4I) (l5I) (l6I) V2) fun v6 V7 => (mBT (mX11_testItem F L2 v1 ((V7.fI v1 6)) V7) (fun v11 L12 V12 => (mBN (mX11_mostItems F v1 V12) fun v16 => (if (V12.fI v1 6) < v16 then (mBW (mX11_remember F ((112 : Int32)) (l1I) V12) fun v22 V23 => (mBW (mX3_setItem F v1 ((V23.fI v1 6)) 12 V23) fun v27 V28 => (mLt (mF V28 v1 6 (((V28.fI v1 6) + (1 : Int32)))) fun V32 => (mLt (mF V32 v1 9 ((0 : Int32))) fun V33 => some ((.inr ((V33.fI v1 6))), L12, V33))))) else (mTh L12 "java/lang/IllegalStateException" V12)))) (fun E0 L0 V0 => some (.inl E0, L0, V0))))) (fun E0 L0 V0 => some (.inl E0, L0, V0)))
set_option maxHeartbeats 4000000 in
set_option maxRecDepth 100000 in
theorem MX11_put {F : Nat} {Ln Ln1 : Nat → Nat} {V V1 : mV} {v : (String ⊕ Int32)} {l1I : Int32} {l2I : Int32} {l3I : Int32} {l4I : Int32} {l5I : Int32} {l6I : Int32} (h : mX11_put F Ln l1I l2I l3I l4I l5I l6I V = some (v, Ln1, V1)) : mP Ln1 ≤ mP Ln := by
  unfold mX11_put at h
  rcases mBT_some h with ⟨_, _, _, z1, h⟩ | ⟨_, _, _, z1, h⟩
  · cases h
    exact MX11_entryAt z1
  · refine Nat.le_trans ?_ (MX11_entryAt z1)
    obtain ⟨_, _, _, h⟩ := mBW_some h
    rcases mBT_some h with ⟨_, _, _, z2, h⟩ | ⟨_, _, _, z2, h⟩
    · cases h
      exact MX11_testItem z2
    · refine Nat.le_trans ?_ (MX11_testItem z2)
      obtain ⟨_, _, h⟩ := mBN_some h
      rcases mIf_some h with ⟨_, h⟩ | ⟨_, h⟩
      · obtain ⟨_, _, _, h⟩ := mBW_some h
        obtain ⟨_, _, _, h⟩ := mBW_some h
        obtain ⟨_, _, h⟩ := mLt_some h
        obtain ⟨_, _, h⟩ := mLt_some h
        cases h
        exact Nat.le_refl _
      · obtain ⟨rfl, rfl, rfl, hth⟩ := mTh_some h
        omega
set_option maxHeartbeats 4000000 in
set_option maxRecDepth 100000 in
theorem LX11_put {α : Nat → Nat} {F : Nat} {S : wPS} {Ln Ln1 : Nat → Nat} {V V1 : mV} {v : (String ⊕ Int32)} {Φ : (Int32 → wPS → Prop)} {Ψ : String → wPS → Prop} {l0Ax : Nat} {l1Ix l1I : Int32} {l2Ix l2I : Int32} {l3Ix l3I : Int32} {l4Ix l4I : Int32} {l5Ix l5I : Int32} {l6Ix l6I : Int32} {k0 n0 : Nat} (h : mX11_put F Ln l1I l2I l3I l4I l5I l6I V = some (v, Ln1, V1)) (R : mRel α S Ln V) (el0A : l0Ax = α 0) (el1I : l1Ix = l1I) (el2I : l2Ix = l2I) (el3I : l3Ix = l3I) (el4I : l4Ix = l4I) (el5I : l5Ix = l5I) (el6I : l6Ix = l6I) (hk : (mP Ln - mP Ln1) / 16 ≤ k0) (hn : mP Ln - mP Ln1 ≤ n0) (k : (∀ S1, mRel α S1 Ln1 V1 → mFr α S S1 → mOut Φ Ψ v S1)) : rX11_put F k0 n0 l0Ax l1Ix l2Ix l3Ix l4Ix l5Ix l6Ix S Φ Ψ := by
  have el0A := el0A.symm
  subst el0A
  have el1I := el1I.symm
  subst el1I
  have el2I := el2I.symm
  subst el2I
  have el3I := el3I.symm
  subst el3I
  have el4I := el4I.symm
  subst el4I
  have el5I := el5I.symm
  subst el5I
  have el6I := el6I.symm
  subst el6I
  unfold mX11_put at h
  unfold rX11_put
  rcases mBT_some h with ⟨E0, L0, V0, z0, h⟩ | ⟨v1, L2, V2, hv1, h⟩
  · have m0 : mP L0 ≤ mP Ln := MX11_entryAt z0
    obtain ⟨rfl, rfl, rfl⟩ := mRA3 h
    refine ⟨(mP Ln - mP L0) / 16, mP Ln - mP L0, by omega, by omega, ?_⟩
    exact LX11_entryAt_E z0 R rfl rfl (by omega) (by omega) (fun S0 R0 F0 => k S0 R0 F0)
  · have mv1 : mP L2 ≤ mP Ln := MX11_entryAt hv1
    have qv1 : mP Ln1 ≤ mP L2 := by
      obtain ⟨_, _, _, h⟩ := mBW_some h
      rcases mBT_some h with ⟨_, _, _, z3, h⟩ | ⟨_, _, _, z3, h⟩
      · cases h
        exact MX11_testItem z3
      · refine Nat.le_trans ?_ (MX11_testItem z3)
        obtain ⟨_, _, h⟩ := mBN_some h
        rcases mIf_some h with ⟨_, h⟩ | ⟨_, h⟩
        · obtain ⟨_, _, _, h⟩ := mBW_some h
          obtain ⟨_, _, _, h⟩ := mBW_some h
          obtain ⟨_, _, h⟩ := mLt_some h
          obtain ⟨_, _, h⟩ := mLt_some h
          cases h
          exact Nat.le_refl _
        · obtain ⟨rfl, rfl, rfl, hth⟩ := mTh_some h
          omega
    refine ⟨(mP Ln - mP L2) / 16, mP Ln - mP L2, by omega, by omega, ?_⟩
    refine LX11_entryAt_V hv1 R rfl rfl (by omega) (by omega) (fun S2 R2 F2 sv1 => ?_)
    obtain ⟨v6, V7, hv6, h⟩ := mBW_some h
    refine LX11_tellNumbers hv6 R2 rfl rfl rfl rfl rfl rfl (fun S7 R7 F7 => ?_)
    rcases mBT_some h with ⟨E0, L0, V0, z0, h⟩ | ⟨v11, L12, V12, hv11, h⟩
    · have m0 : mP L0 ≤ mP L2 := MX11_testItem z0
      obtain ⟨rfl, rfl, rfl⟩ := mRA3 h
      refine ⟨(mP L2 - mP L0) / 16, mP L2 - mP L0, by omega, by omega, ?_⟩
      exact LX11_testItem_E z0 R7 sv1 rfl rfl (by rw [show gEntry_itemCount S7 (α v1) = V7.fI v1 6 from (mg_I (i := v1) R7 (mO3 sv1) rfl 6)]) (by omega) (by omega) (fun S0 R0 F0 => k S0 R0 (F2.tr (F7.tr F0)))
    · have mv11 : mP L12 ≤ mP L2 := MX11_testItem hv11
      have qv11 : mP Ln1 ≤ mP L12 := by
        obtain ⟨_, _, h⟩ := mBN_some h
        rcases mIf_some h with ⟨_, h⟩ | ⟨_, h⟩
        · obtain ⟨_, _, _, h⟩ := mBW_some h
          obtain ⟨_, _, _, h⟩ := mBW_some h
          obtain ⟨_, _, h⟩ := mLt_some h
          obtain ⟨_, _, h⟩ := mLt_some h
          cases h
          exact Nat.le_refl _
        · obtain ⟨rfl, rfl, rfl, hth⟩ := mTh_some h
          omega
      refine ⟨(mP L2 - mP L12) / 16, mP L2 - mP L12, by omega, by omega, ?_⟩
      refine LX11_testItem_V hv11 R7 sv1 rfl rfl (by rw [show gEntry_itemCount S7 (α v1) = V7.fI v1 6 from (mg_I (i := v1) R7 (mO3 sv1) rfl 6)]) (by omega) (by omega) (fun S12 R12 F12 => ?_)
      obtain ⟨v16, hv16, h⟩ := mBN_some h
      refine LX11_mostItems hv16 R12 sv1 rfl ?_
      refine mIf h (by rw [show gEntry_itemCount S12 (α v1) = V12.fI v1 6 from (mg_I (i := v1) R12 (mO3 sv1) rfl 6)]) (fun c4 h => ?_) (fun c4 h => ?_)
      · obtain ⟨v22, V23, hv22, h⟩ := mBW_some h
        refine LX11_remember hv22 R12 rfl rfl rfl (fun S23 R23 F23 => ?_)
        obtain ⟨v27, V28, hv27, h⟩ := mBW_some h
        refine LX3_setItem hv27 R23 sv1 rfl rfl (by rw [show gEntry_itemCount S23 (α v1) = V23.fI v1 6 from (mg_I (i := v1) R23 (mO3 sv1) rfl 6)]) (mg_A (t := 12) R23 rfl rfl) (fun S28 R28 F28 => ?_)
        obtain ⟨V32, eV32, h⟩ := mLt_some h
        refine mU_F eV32 R28 (mO3 sv1) rfl (by rw [show gEntry_itemCount S28 (α v1) = V28.fI v1 6 from (mg_I (i := v1) R28 (mO3 sv1) rfl 6)]) (fun S32 R32 F32 => ?_)
        obtain ⟨V33, eV33, h⟩ := mLt_some h
        refine mU_F eV33 R32 (mO3 sv1) rfl rfl (fun S33 R33 F33 => ?_)
        obtain ⟨rfl, rfl, rfl⟩ := mRA3 h
        rw [show gEntry_itemCount S33 (α v1) = V33.fI v1 6 from (mg_I (i := v1) R33 (mO3 sv1) rfl 6)]
        exact k _ R33 (F2.tr (F7.tr (F12.tr (F23.tr (F28.tr (F32.tr F33))))))
      · obtain ⟨rfl, rfl, rfl, hth⟩ := mTh_some h
        exact ⟨by omega, by omega, k _ (mRel_th R12) (F2.tr (F7.tr F12))⟩
theorem LX11_put_E {α : Nat → Nat} {F : Nat} {S : wPS} {Ln Ln1 : Nat → Nat} {V V1 : mV} {e : String} {Φ : (Int32 → wPS → Prop)} {Ψ : String → wPS → Prop} {l0Ax : Nat} {l1Ix l1I : Int32} {l2Ix l2I : Int32} {l3Ix l3I : Int32} {l4Ix l4I : Int32} {l5Ix l5I : Int32} {l6Ix l6I : Int32} {k0 n0 : Nat} (h : mX11_put F Ln l1I l2I l3I l4I l5I l6I V = some (.inl e, Ln1, V1)) (R : mRel α S Ln V) (el0A : l0Ax = α 0) (el1I : l1Ix = l1I) (el2I : l2Ix = l2I) (el3I : l3Ix = l3I) (el4I : l4Ix = l4I) (el5I : l5Ix = l5I) (el6I : l6Ix = l6I) (hk : (mP Ln - mP Ln1) / 16 ≤ k0) (hn : mP Ln - mP Ln1 ≤ n0) (k : ∀ S1, mRel α S1 Ln1 V1 → mFr α S S1 → Ψ e S1) : rX11_put F k0 n0 l0Ax l1Ix l2Ix l3Ix l4Ix l5Ix l6Ix S Φ Ψ := LX11_put h R el0A el1I el2I el3I el4I el5I el6I hk hn k
theorem LX11_put_V {α : Nat → Nat} {F : Nat} {S : wPS} {Ln Ln1 : Nat → Nat} {V V1 : mV} {a : Int32} {Φ : (Int32 → wPS → Prop)} {Ψ : String → wPS → Prop} {l0Ax : Nat} {l1Ix l1I : Int32} {l2Ix l2I : Int32} {l3Ix l3I : Int32} {l4Ix l4I : Int32} {l5Ix l5I : Int32} {l6Ix l6I : Int32} {k0 n0 : Nat} (h : mX11_put F Ln l1I l2I l3I l4I l5I l6I V = some (.inr a, Ln1, V1)) (R : mRel α S Ln V) (el0A : l0Ax = α 0) (el1I : l1Ix = l1I) (el2I : l2Ix = l2I) (el3I : l3Ix = l3I) (el4I : l4Ix = l4I) (el5I : l5Ix = l5I) (el6I : l6Ix = l6I) (hk : (mP Ln - mP Ln1) / 16 ≤ k0) (hn : mP Ln - mP Ln1 ≤ n0) (k : ∀ S1, mRel α S1 Ln1 V1 → mFr α S S1 → Φ a S1) : rX11_put F k0 n0 l0Ax l1Ix l2Ix l3Ix l4Ix l5Ix l6Ix S Φ Ψ := LX11_put h R el0A el1I el2I el3I el4I el5I el6I hk hn k
def mX11_change (F : Nat) (Ln : Nat → Nat) (l1I : Int32) (l2I : Int32) (l3I : Int32) (l4I : Int32) (l5I : Int32) (l6I : Int32) (l7I : Int32) (V : mV) : Option ((String ⊕ Int32) × (Nat → Nat) × mV) :=
  (mBT (mX11_entryAt F Ln (l1I) V) (fun v1 L2 V2 => (mBT (mX11_testPlace F L2 (l2I) ((V2.fI v1 6)) V2) (fun v6 L7 V7 => (mBW (mX11_tellNumbers F (l3I) (l4I) (l5I) (l6I) (l7I) V7) fun v11 V12 => (mBT (mX11_testItem F L7 v1 (l2I) V12) (fun v16 L17 V17 => (mBW (mX11_remember F ((99 : Int32)) (l1I) V17) fun v21 V22 => (mBN (mX3_countUnlike F v1 (l2I) 12 V22) fun v26 => (mBW (mX3_setItem F v1 (l2I) 12 V22) fun v31 V32 => (mLt (mF V32 v1 9 ((0 : Int32))) fun V36 => some ((.inr (v26)), L17, V36)))))) (fun E0 L0 V0 => some (.inl E0, L0, V0))))) (fun E0 L0 V0 => some (.inl E0, L0, V0)))) (fun E0 L0 V0 => some (.inl E0, L0, V0)))
set_option maxHeartbeats 4000000 in
set_option maxRecDepth 100000 in
theorem MX11_change {F : Nat} {Ln Ln1 : Nat → Nat} {V V1 : mV} {v : (String ⊕ Int32)} {l1I : Int32} {l2I : Int32} {l3I : Int32} {l4I : Int32} {l5I : Int32} {l6I : Int32} {l7I : Int32} (h : mX11_change F Ln l1I l2I l3I l4I l5I l6I l7I V = some (v, Ln1, V1)) : mP Ln1 ≤ mP Ln := by
  unfold mX11_change at h
  rcases mBT_some h with ⟨_, _, _, z1, h⟩ | ⟨_, _, _, z1, h⟩
  · cases h
    exact MX11_entryAt z1
  · refine Nat.le_trans ?_ (MX11_entryAt z1)
    rcases mBT_some h with ⟨_, _, _, z2, h⟩ | ⟨_, _, _, z2, h⟩
    · cases h
      exact MX11_testPlace z2
    · refine Nat.le_trans ?_ (MX11_testPlace z2)
      obtain ⟨_, _, _, h⟩ := mBW_some h
      rcases mBT_some h with ⟨_, _, _, z3, h⟩ | ⟨_, _, _, z3, h⟩
      · cases h
        exact MX11_testItem z3
      · refine Nat.le_trans ?_ (MX11_testItem z3)
        obtain ⟨_, _, _, h⟩ := mBW_some h
        obtain ⟨_, _, h⟩ := mBN_some h
        obtain ⟨_, _, _, h⟩ := mBW_some h
        obtain ⟨_, _, h⟩ := mLt_some h
        cases h
        exact Nat.le_refl _
set_option maxHeartbeats 4000000 in
set_option maxRecDepth 100000 in
theorem LX11_change {α : Nat → Nat} {F : Nat} {S : wPS} {Ln Ln1 : Nat → Nat} {V V1 : mV} {v : (String ⊕ Int32)} {Φ : (Int32 → wPS → Prop)} {Ψ : String → wPS → Prop} {l0Ax : Nat} {l1Ix l1I : Int32} {l2Ix l2I : Int32} {l3Ix l3I : Int32} {l4Ix l4I : Int32} {l5Ix l5I : Int32} {l6Ix l6I : Int32} {l7Ix l7I : Int32} {k0 n0 : Nat} (h : mX11_change F Ln l1I l2I l3I l4I l5I l6I l7I V = some (v, Ln1, V1)) (R : mRel α S Ln V) (el0A : l0Ax = α 0) (el1I : l1Ix = l1I) (el2I : l2Ix = l2I) (el3I : l3Ix = l3I) (el4I : l4Ix = l4I) (el5I : l5Ix = l5I) (el6I : l6Ix = l6I) (el7I : l7Ix = l7I) (hk : (mP Ln - mP Ln1) / 16 ≤ k0) (hn : mP Ln - mP Ln1 ≤ n0) (k : (∀ S1, mRel α S1 Ln1 V1 → mFr α S S1 → mOut Φ Ψ v S1)) : rX11_change F k0 n0 l0Ax l1Ix l2Ix l3Ix l4Ix l5Ix l6Ix l7Ix S Φ Ψ := by
  have el0A := el0A.symm
  subst el0A
  have el1I := el1I.symm
  subst el1I
  have el2I := el2I.symm
  subst el2I
  have el3I := el3I.symm
  subst el3I
  have el4I := el4I.symm
  subst el4I
  have el5I := el5I.symm
  subst el5I
  have el6I := el6I.symm
  subst el6I
  have el7I := el7I.symm
  subst el7I
  unfold mX11_change at h
  unfold rX11_change
  rcases mBT_some h with ⟨E0, L0, V0, z0, h⟩ | ⟨v1, L2, V2, hv1, h⟩
  · have m0 : mP L0 ≤ mP Ln := MX11_entryAt z0
    obtain ⟨rfl, rfl, rfl⟩ := mRA3 h
    refine ⟨(mP Ln - mP L0) / 16, mP Ln - mP L0, by omega, by omega, ?_⟩
    exact LX11_entryAt_E z0 R rfl rfl (by omega) (by omega) (fun S0 R0 F0 => k S0 R0 F0)
  · have mv1 : mP L2 ≤ mP Ln := MX11_entryAt hv1
    have qv1 : mP Ln1 ≤ mP L2 := by
      rcases mBT_some h with ⟨_, _, _, z4, h⟩ | ⟨_, _, _, z4, h⟩
      · cases h
        exact MX11_testPlace z4
      · refine Nat.le_trans ?_ (MX11_testPlace z4)
        obtain ⟨_, _, _, h⟩ := mBW_some h
        rcases mBT_some h with ⟨_, _, _, z5, h⟩ | ⟨_, _, _, z5, h⟩
        · cases h
          exact MX11_testItem z5
        · refine Nat.le_trans ?_ (MX11_testItem z5)
          obtain ⟨_, _, _, h⟩ := mBW_some h
          obtain ⟨_, _, h⟩ := mBN_some h
          obtain ⟨_, _, _, h⟩ := mBW_some h
          obtain ⟨_, _, h⟩ := mLt_some h
          cases h
          exact Nat.le_refl _
    refine ⟨(mP Ln - mP L2) / 16, mP Ln - mP L2, by omega, by omega, ?_⟩
    refine LX11_entryAt_V hv1 R rfl rfl (by omega) (by omega) (fun S2 R2 F2 sv1 => ?_)
    rcases mBT_some h with ⟨E0, L0, V0, z0, h⟩ | ⟨v6, L7, V7, hv6, h⟩
    · have m0 : mP L0 ≤ mP L2 := MX11_testPlace z0
      obtain ⟨rfl, rfl, rfl⟩ := mRA3 h
      refine ⟨(mP L2 - mP L0) / 16, mP L2 - mP L0, by omega, by omega, ?_⟩
      exact LX11_testPlace_E z0 R2 rfl (by rw [show gEntry_itemCount S2 (α v1) = V2.fI v1 6 from (mg_I (i := v1) R2 (mO3 sv1) rfl 6)]) (by omega) (by omega) (fun S0 R0 F0 => k S0 R0 (F2.tr F0))
    · have mv6 : mP L7 ≤ mP L2 := MX11_testPlace hv6
      have qv6 : mP Ln1 ≤ mP L7 := by
        obtain ⟨_, _, _, h⟩ := mBW_some h
        rcases mBT_some h with ⟨_, _, _, z6, h⟩ | ⟨_, _, _, z6, h⟩
        · cases h
          exact MX11_testItem z6
        · refine Nat.le_trans ?_ (MX11_testItem z6)
          obtain ⟨_, _, _, h⟩ := mBW_some h
          obtain ⟨_, _, h⟩ := mBN_some h
          obtain ⟨_, _, _, h⟩ := mBW_some h
          obtain ⟨_, _, h⟩ := mLt_some h
          cases h
          exact Nat.le_refl _
      refine ⟨(mP L2 - mP L7) / 16, mP L2 - mP L7, by omega, by omega, ?_⟩
      refine LX11_testPlace_V hv6 R2 rfl (by rw [show gEntry_itemCount S2 (α v1) = V2.fI v1 6 from (mg_I (i := v1) R2 (mO3 sv1) rfl 6)]) (by omega) (by omega) (fun S7 R7 F7 => ?_)
      obtain ⟨v11, V12, hv11, h⟩ := mBW_some h
      refine LX11_tellNumbers hv11 R7 rfl rfl rfl rfl rfl rfl (fun S12 R12 F12 => ?_)
      rcases mBT_some h with ⟨E0, L0, V0, z0, h⟩ | ⟨v16, L17, V17, hv16, h⟩
      · have m0 : mP L0 ≤ mP L7 := MX11_testItem z0
        obtain ⟨rfl, rfl, rfl⟩ := mRA3 h
        refine ⟨(mP L7 - mP L0) / 16, mP L7 - mP L0, by omega, by omega, ?_⟩
        exact LX11_testItem_E z0 R12 sv1 rfl rfl rfl (by omega) (by omega) (fun S0 R0 F0 => k S0 R0 (F2.tr (F7.tr (F12.tr F0))))
      · have mv16 : mP L17 ≤ mP L7 := MX11_testItem hv16
        have qv16 : mP Ln1 ≤ mP L17 := by
          obtain ⟨_, _, _, h⟩ := mBW_some h
          obtain ⟨_, _, h⟩ := mBN_some h
          obtain ⟨_, _, _, h⟩ := mBW_some h
          obtain ⟨_, _, h⟩ := mLt_some h
          cases h
          exact Nat.le_refl _
        refine ⟨(mP L7 - mP L17) / 16, mP L7 - mP L17, by omega, by omega, ?_⟩
        refine LX11_testItem_V hv16 R12 sv1 rfl rfl rfl (by omega) (by omega) (fun S17 R17 F17 => ?_)
        obtain ⟨v21, V22, hv21, h⟩ := mBW_some h
        refine LX11_remember hv21 R17 rfl rfl rfl (fun S22 R22 F22 => ?_)
        obtain ⟨v26, hv26, h⟩ := mBN_some h
        refine LX3_countUnlike hv26 R22 sv1 rfl rfl rfl (mg_A (t := 12) R22 rfl rfl) ?_
        obtain ⟨v31, V32, hv31, h⟩ := mBW_some h
        refine LX3_setItem hv31 R22 sv1 rfl rfl rfl (mg_A (t := 12) R22 rfl rfl) (fun S32 R32 F32 => ?_)
        obtain ⟨V36, eV36, h⟩ := mLt_some h
        refine mU_F eV36 R32 (mO3 sv1) rfl rfl (fun S36 R36 F36 => ?_)
        obtain ⟨rfl, rfl, rfl⟩ := mRA3 h
        exact k _ R36 (F2.tr (F7.tr (F12.tr (F17.tr (F22.tr (F32.tr F36))))))
theorem LX11_change_E {α : Nat → Nat} {F : Nat} {S : wPS} {Ln Ln1 : Nat → Nat} {V V1 : mV} {e : String} {Φ : (Int32 → wPS → Prop)} {Ψ : String → wPS → Prop} {l0Ax : Nat} {l1Ix l1I : Int32} {l2Ix l2I : Int32} {l3Ix l3I : Int32} {l4Ix l4I : Int32} {l5Ix l5I : Int32} {l6Ix l6I : Int32} {l7Ix l7I : Int32} {k0 n0 : Nat} (h : mX11_change F Ln l1I l2I l3I l4I l5I l6I l7I V = some (.inl e, Ln1, V1)) (R : mRel α S Ln V) (el0A : l0Ax = α 0) (el1I : l1Ix = l1I) (el2I : l2Ix = l2I) (el3I : l3Ix = l3I) (el4I : l4Ix = l4I) (el5I : l5Ix = l5I) (el6I : l6Ix = l6I) (el7I : l7Ix = l7I) (hk : (mP Ln - mP Ln1) / 16 ≤ k0) (hn : mP Ln - mP Ln1 ≤ n0) (k : ∀ S1, mRel α S1 Ln1 V1 → mFr α S S1 → Ψ e S1) : rX11_change F k0 n0 l0Ax l1Ix l2Ix l3Ix l4Ix l5Ix l6Ix l7Ix S Φ Ψ := LX11_change h R el0A el1I el2I el3I el4I el5I el6I el7I hk hn k
theorem LX11_change_V {α : Nat → Nat} {F : Nat} {S : wPS} {Ln Ln1 : Nat → Nat} {V V1 : mV} {a : Int32} {Φ : (Int32 → wPS → Prop)} {Ψ : String → wPS → Prop} {l0Ax : Nat} {l1Ix l1I : Int32} {l2Ix l2I : Int32} {l3Ix l3I : Int32} {l4Ix l4I : Int32} {l5Ix l5I : Int32} {l6Ix l6I : Int32} {l7Ix l7I : Int32} {k0 n0 : Nat} (h : mX11_change F Ln l1I l2I l3I l4I l5I l6I l7I V = some (.inr a, Ln1, V1)) (R : mRel α S Ln V) (el0A : l0Ax = α 0) (el1I : l1Ix = l1I) (el2I : l2Ix = l2I) (el3I : l3Ix = l3I) (el4I : l4Ix = l4I) (el5I : l5Ix = l5I) (el6I : l6Ix = l6I) (el7I : l7Ix = l7I) (hk : (mP Ln - mP Ln1) / 16 ≤ k0) (hn : mP Ln - mP Ln1 ≤ n0) (k : ∀ S1, mRel α S1 Ln1 V1 → mFr α S S1 → Φ a S1) : rX11_change F k0 n0 l0Ax l1Ix l2Ix l3Ix l4Ix l5Ix l6Ix l7Ix S Φ Ψ := LX11_change h R el0A el1I el2I el3I el4I el5I el6I el7I hk hn k
def mX11_kindOf (F : Nat) (Ln : Nat → Nat) (l1I : Int32) (V : mV) : Option ((String ⊕ Int32) × (Nat → Nat) × mV) :=
  (mBT (mX11_entryAt F Ln (l1I) V) (fun v1 L2 V2 => (mBN (mJ0_charAt_5068e F ((V2.fI v1 0))) fun v6 => (if ¬ (((v6 : Int32).toUInt32 % 65536).toInt32 = v6) then none else some ((.inr (v6)), L2, V2)))) (fun E0 L0 V0 => some (.inl E0, L0, V0)))
set_option maxHeartbeats 4000000 in
set_option maxRecDepth 100000 in
theorem MX11_kindOf {F : Nat} {Ln Ln1 : Nat → Nat} {V V1 : mV} {v : (String ⊕ Int32)} {l1I : Int32} (h : mX11_kindOf F Ln l1I V = some (v, Ln1, V1)) : mP Ln1 ≤ mP Ln := by
  unfold mX11_kindOf at h
  rcases mBT_some h with ⟨_, _, _, z1, h⟩ | ⟨_, _, _, z1, h⟩
  · cases h
    exact MX11_entryAt z1
  · refine Nat.le_trans ?_ (MX11_entryAt z1)
    obtain ⟨_, _, h⟩ := mBN_some h
    obtain ⟨_, h⟩ := mGd_some h
    cases h
    exact Nat.le_refl _
set_option maxHeartbeats 4000000 in
set_option maxRecDepth 100000 in
theorem LX11_kindOf {α : Nat → Nat} {F : Nat} {S : wPS} {Ln Ln1 : Nat → Nat} {V V1 : mV} {v : (String ⊕ Int32)} {Φ : (Int32 → wPS → Prop)} {Ψ : String → wPS → Prop} {l0Ax : Nat} {l1Ix l1I : Int32} {k0 n0 : Nat} (h : mX11_kindOf F Ln l1I V = some (v, Ln1, V1)) (R : mRel α S Ln V) (el0A : l0Ax = α 0) (el1I : l1Ix = l1I) (hk : (mP Ln - mP Ln1) / 16 ≤ k0) (hn : mP Ln - mP Ln1 ≤ n0) (k : (∀ S1, mRel α S1 Ln1 V1 → mFr α S S1 → mOut Φ Ψ v S1)) : rX11_kindOf F k0 n0 l0Ax l1Ix S Φ Ψ := by
  have el0A := el0A.symm
  subst el0A
  have el1I := el1I.symm
  subst el1I
  unfold mX11_kindOf at h
  unfold rX11_kindOf
  rcases mBT_some h with ⟨E0, L0, V0, z0, h⟩ | ⟨v1, L2, V2, hv1, h⟩
  · have m0 : mP L0 ≤ mP Ln := MX11_entryAt z0
    obtain ⟨rfl, rfl, rfl⟩ := mRA3 h
    refine ⟨(mP Ln - mP L0) / 16, mP Ln - mP L0, by omega, by omega, ?_⟩
    exact LX11_entryAt_E z0 R rfl rfl (by omega) (by omega) (fun S0 R0 F0 => k S0 R0 F0)
  · have mv1 : mP L2 ≤ mP Ln := MX11_entryAt hv1
    have qv1 : mP Ln1 ≤ mP L2 := by
      obtain ⟨_, _, h⟩ := mBN_some h
      obtain ⟨_, h⟩ := mGd_some h
      cases h
      exact Nat.le_refl _
    refine ⟨(mP Ln - mP L2) / 16, mP Ln - mP L2, by omega, by omega, ?_⟩
    refine LX11_entryAt_V hv1 R rfl rfl (by omega) (by omega) (fun S2 R2 F2 sv1 => ?_)
    obtain ⟨v6, hv6, h⟩ := mBN_some h
    refine LJ0_charAt_5068e hv6 (by rw [show gEntry_kind S2 (α v1) = V2.fI v1 0 from (mg_I (i := v1) R2 (mO3 sv1) rfl 0)]) ?_
    refine mGp h Iff.rfl (fun c2 h => ?_)
    obtain ⟨rfl, rfl, rfl⟩ := mRA3 h
    exact k _ R2 F2
theorem LX11_kindOf_E {α : Nat → Nat} {F : Nat} {S : wPS} {Ln Ln1 : Nat → Nat} {V V1 : mV} {e : String} {Φ : (Int32 → wPS → Prop)} {Ψ : String → wPS → Prop} {l0Ax : Nat} {l1Ix l1I : Int32} {k0 n0 : Nat} (h : mX11_kindOf F Ln l1I V = some (.inl e, Ln1, V1)) (R : mRel α S Ln V) (el0A : l0Ax = α 0) (el1I : l1Ix = l1I) (hk : (mP Ln - mP Ln1) / 16 ≤ k0) (hn : mP Ln - mP Ln1 ≤ n0) (k : ∀ S1, mRel α S1 Ln1 V1 → mFr α S S1 → Ψ e S1) : rX11_kindOf F k0 n0 l0Ax l1Ix S Φ Ψ := LX11_kindOf h R el0A el1I hk hn k
theorem LX11_kindOf_V {α : Nat → Nat} {F : Nat} {S : wPS} {Ln Ln1 : Nat → Nat} {V V1 : mV} {a : Int32} {Φ : (Int32 → wPS → Prop)} {Ψ : String → wPS → Prop} {l0Ax : Nat} {l1Ix l1I : Int32} {k0 n0 : Nat} (h : mX11_kindOf F Ln l1I V = some (.inr a, Ln1, V1)) (R : mRel α S Ln V) (el0A : l0Ax = α 0) (el1I : l1Ix = l1I) (hk : (mP Ln - mP Ln1) / 16 ≤ k0) (hn : mP Ln - mP Ln1 ≤ n0) (k : ∀ S1, mRel α S1 Ln1 V1 → mFr α S S1 → Φ a S1) : rX11_kindOf F k0 n0 l0Ax l1Ix S Φ Ψ := LX11_kindOf h R el0A el1I hk hn k
def mJ0_indexOf_0f7a4 (F : Nat) (l1I : Int32) : Option Int32 :=
  (mBN (mJ0_indexOf_7cf53 F (l1I) ((0 : Int32))) fun v1 => some (v1))
set_option maxHeartbeats 4000000 in
set_option maxRecDepth 100000 in
theorem LJ0_indexOf_0f7a4 {F : Nat} {S : wPS} {v : Int32} {Φ : (Int32 → wPS → Prop)} {l1Ix l1I : Int32} (h : mJ0_indexOf_0f7a4 F l1I  = some v) (el1I : l1Ix = l1I) (k : (Φ v S)) : rJ0_indexOf_0f7a4 F l1Ix S Φ := by
  have el1I := el1I.symm
  subst el1I
  unfold mJ0_indexOf_0f7a4 at h
  unfold rJ0_indexOf_0f7a4
  obtain ⟨v1, hv1, h⟩ := mBN_some h
  refine LJ0_indexOf_7cf53 hv1 rfl rfl ?_
  cases h
  exact k
end
