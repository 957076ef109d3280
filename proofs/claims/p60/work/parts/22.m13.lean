/-! LIFTED BY PROGRAM (lift.py): X7_judgeFlow, X7_judgeBar, X8_gather, X8_takeLeastAmount, X8_judgeUnknowns, X8_judgeModulus. -/
section
def mX7_judgeFlow_b0 (F : Nat) (rec : Nat → (Nat → Nat) → Nat → Nat → Int32 → mV → Option (Int32 × mV)) (Ln : Nat → Nat) (l1A : Nat) (l2A : Nat) (l3I : Int32) (V : mV) : Option (Int32 × mV) :=
  (if (V.fI 2 9) ≤ l3I then (rec 1 Ln l1A 0 ((1 : Int32)) V) else (mBN (mX9_at F Ln l2A (l3I) V) fun v2 => (if v2 < 0 then some ((2 : Int32), V) else (mBN (mX9_at F Ln l2A (l3I) V) fun v8 => (if l3I < 0 ∨ 10 ≤ (l3I).toNatClampNeg then none else (if v8 ≤ (V.rI 23 (l3I).toNatClampNeg) then (if l3I < 0 ∨ 10 ≤ (l3I).toNatClampNeg then none else (if (V.rI 21 (l3I).toNatClampNeg) < 0 ∨ 7 ≤ ((V.rI 21 (l3I).toNatClampNeg)).toNatClampNeg then none else (mBN (mX9_at F Ln l2A (l3I) V) fun v17 => (if (V.rI 21 (l3I).toNatClampNeg) < 0 ∨ 7 ≤ ((V.rI 21 (l3I).toNatClampNeg)).toNatClampNeg then none else (mLt (mI V 26 ((V.rI 21 (l3I).toNatClampNeg)) (((V.rI 26 ((V.rI 21 (l3I).toNatClampNeg)).toNatClampNeg) + v17))) fun V23 => (if l3I < 0 ∨ 10 ≤ (l3I).toNatClampNeg then none else (if (V23.rI 22 (l3I).toNatClampNeg) < 0 ∨ 7 ≤ ((V23.rI 22 (l3I).toNatClampNeg)).toNatClampNeg then none else (mBN (mX9_at F Ln l2A (l3I) V23) fun v26 => (if (V23.rI 22 (l3I).toNatClampNeg) < 0 ∨ 7 ≤ ((V23.rI 22 (l3I).toNatClampNeg)).toNatClampNeg then none else (mLt (mI V23 26 ((V23.rI 22 (l3I).toNatClampNeg)) (((V23.rI 26 ((V23.rI 22 (l3I).toNatClampNeg)).toNatClampNeg) - v26))) fun V32 => (mLt (l3I + (1 : Int32)) fun x33 => (rec 0 Ln l1A l2A (x33) V32)))))))))))) else some ((2 : Int32), V)))))))
def mX7_judgeFlow_b1 (F : Nat) (rec : Nat → (Nat → Nat) → Nat → Nat → Int32 → mV → Option (Int32 × mV)) (Ln : Nat → Nat) (l1A : Nat) (l3I : Int32) (V : mV) : Option (Int32 × mV) :=
  (if ((V.fI 2 8) - (1 : Int32)) ≤ l3I then (if (0 : Int32) < 0 ∨ 7 ≤ ((0 : Int32)).toNatClampNeg then none else (if (V.rI 26 ((0 : Int32)).toNatClampNeg) = (V.fI l1A 8) then some ((0 : Int32), V) else some ((4 : Int32), V))) else (if l3I < 0 ∨ 7 ≤ (l3I).toNatClampNeg then none else (if (V.rI 26 (l3I).toNatClampNeg) = 0 then (mLt (l3I + (1 : Int32)) fun x39 => (rec 1 Ln l1A 0 (x39) V)) else some ((3 : Int32), V))))
def mX7_judgeFlow_go (F : Nat) : Nat → Nat → (Nat → Nat) → Nat → Nat → Int32 → mV → Option (Int32 × mV)
  | 0, _, _, _, _, _, _ => none
  | k' + 1, lab, Ln, l1A, l2A, l3I, V => if lab = 0 then mX7_judgeFlow_b0 F (mX7_judgeFlow_go F k') Ln l1A l2A l3I V else if lab = 1 then mX7_judgeFlow_b1 F (mX7_judgeFlow_go F k') Ln l1A l3I V else none
def mX7_judgeFlow_s (F : Nat) (rec : Nat → (Nat → Nat) → Nat → Nat → Int32 → mV → Option (Int32 × mV)) (Ln : Nat → Nat) (l1A : Nat) (l2A : Nat) (V : mV) : Option (Int32 × mV) :=
  (mBW (mX7_loadFlows F l1A V) fun v40 V41 => (if (V41.fI l2A 1) = (V41.fI 2 9) then (mBW (mJ7_fill_53178 F 26 ((0 : Int32)) V41) fun v46 V47 => (rec 0 Ln l1A l2A ((0 : Int32)) V47)) else some ((1 : Int32), V41)))
def mX7_judgeFlow (F : Nat) (Ln : Nat → Nat) (l1A : Nat) (l2A : Nat) (V : mV) : Option (Int32 × mV) := mX7_judgeFlow_s F (mX7_judgeFlow_go F F) Ln l1A l2A V
set_option maxHeartbeats 4000000 in
set_option maxRecDepth 100000 in
theorem LX7_judgeFlow_go {α : Nat → Nat} {F : Nat} {v : Int32} {V1 : mV} {Φ : (Int32 → wPS → Prop)} : ∀ k' : Nat, (∀ (l1A : Nat) (l2A : Nat) (l3I : Int32) (S : wPS) (V : mV) (Ln : Nat → Nat) , mRel α S Ln V → mK l1A = 3 → mK l2A = 9 → mX7_judgeFlow_go F k' 0 Ln l1A l2A l3I V = some (v, V1) → (∀ S1, mRel α S1 Ln V1 → mFr α S S1 → Φ v S1) → rX7_judgeFlow_go F k' 0 (α 2) (α l1A) (α l2A) l3I S Φ) ∧ (∀ (l1A : Nat) (l3I : Int32) (S : wPS) (V : mV) (Ln : Nat → Nat) , mRel α S Ln V → mK l1A = 3 → mX7_judgeFlow_go F k' 1 Ln l1A 0 l3I V = some (v, V1) → (∀ S1, mRel α S1 Ln V1 → mFr α S S1 → Φ v S1) → rX7_judgeFlow_go F k' 1 (α 2) (α l1A) 0 l3I S Φ) := by
  intro k'
  induction k' with
  | zero => exact ⟨(fun _ _ _ _ _ _ _ _ _ h _ => by cases h), (fun _ _ _ _ _ _ _ h _ => by cases h)⟩
  | succ k' ih =>
    refine ⟨?_, ?_⟩
    · intro l1A l2A l3I S V Ln R sl1A sl2A h k
      rw [mX7_judgeFlow_go, if_pos rfl] at h
      rw [rX7_judgeFlow_go, if_pos rfl]
      unfold mX7_judgeFlow_b0 at h
      unfold rX7_judgeFlow_b0
      refine mIf h (by rw [show gNetworks_itemCount S (α 2) = V.fI 2 9 from (mg_I (i := 2) R (by decide) rfl 9)]) (fun c1 h => ?_) (fun c1 h => ?_)
      · exact ih.2 _ _ _ _ _ R sl1A h (fun S1 R1 F1 => k S1 R1 F1)
      · obtain ⟨v2, hv2, h⟩ := mBN_some h
        refine LX9_at hv2 R sl2A rfl rfl ?_
        refine mIf h Iff.rfl (fun c2 h => ?_) (fun c2 h => ?_)
        · obtain ⟨rfl, rfl⟩ := mRW h
          exact k _ R mFr.rf
        · obtain ⟨v8, hv8, h⟩ := mBN_some h
          refine LX9_at hv8 R sl2A rfl rfl ?_
          refine mGd h (by rw [show S.len (wkAd (gNetworks_caps S (α 2))) = 10 from (mg_len (i := 23) R (mA13 rfl) (mg_A (t := 23) R rfl rfl))]) (fun c3 h => ?_)
          refine mIf h (by rw [show S.rI (wkAd (gNetworks_caps S (α 2))) (l3I).toNatClampNeg = V.rI 23 (l3I).toNatClampNeg from (mg_rI (i := 23) R (mA13 rfl) (mg_A (t := 23) R rfl rfl) rfl)]) (fun c4 h => ?_) (fun c4 h => ?_)
          · refine mGd h (by rw [show S.len (wkAd (gNetworks_from S (α 2))) = 10 from (mg_len (i := 21) R (mA13 rfl) (mg_A (t := 21) R rfl rfl))]) (fun c5 h => ?_)
            refine mGd h (by rw [show S.rI (wkAd (gNetworks_from S (α 2))) (l3I).toNatClampNeg = V.rI 21 (l3I).toNatClampNeg from (mg_rI (i := 21) R (mA13 rfl) (mg_A (t := 21) R rfl rfl) rfl), show S.len (wkAd (gNetworks_excess S (α 2))) = 7 from (mg_len (i := 26) R (mA13 rfl) (mg_A (t := 26) R rfl rfl))]) (fun c6 h => ?_)
            obtain ⟨v17, hv17, h⟩ := mBN_some h
            refine LX9_at hv17 R sl2A rfl rfl ?_
            refine mGd h (by rw [show S.rI (wkAd (gNetworks_from S (α 2))) (l3I).toNatClampNeg = V.rI 21 (l3I).toNatClampNeg from (mg_rI (i := 21) R (mA13 rfl) (mg_A (t := 21) R rfl rfl) rfl), show S.len (wkAd (gNetworks_excess S (α 2))) = 7 from (mg_len (i := 26) R (mA13 rfl) (mg_A (t := 26) R rfl rfl))]) (fun c7 h => ?_)
            obtain ⟨V23, eV23, h⟩ := mLt_some h
            refine mU_I eV23 R (mA13 rfl) (mg_A (t := 26) R rfl rfl) (by rw [show S.rI (wkAd (gNetworks_from S (α 2))) (l3I).toNatClampNeg = V.rI 21 (l3I).toNatClampNeg from (mg_rI (i := 21) R (mA13 rfl) (mg_A (t := 21) R rfl rfl) rfl)]) (by rw [show S.rI (wkAd (gNetworks_excess S (α 2))) ((S.rI (wkAd (gNetworks_from S (α 2))) (l3I).toNatClampNeg)).toNatClampNeg = V.rI 26 ((V.rI 21 (l3I).toNatClampNeg)).toNatClampNeg from (mg_rI (i := 26) R (mA13 rfl) (mg_A (t := 26) R rfl rfl) (by rw [show S.rI (wkAd (gNetworks_from S (α 2))) (l3I).toNatClampNeg = V.rI 21 (l3I).toNatClampNeg from (mg_rI (i := 21) R (mA13 rfl) (mg_A (t := 21) R rfl rfl) rfl)]))]) (fun S23 R23 F23 => ?_)
            refine mGd h (by rw [show S23.len (wkAd (gNetworks_to S23 (α 2))) = 10 from (mg_len (i := 22) R23 (mA13 rfl) (mg_A (t := 22) R23 rfl rfl))]) (fun c8 h => ?_)
            refine mGd h (by rw [show S23.rI (wkAd (gNetworks_to S23 (α 2))) (l3I).toNatClampNeg = V23.rI 22 (l3I).toNatClampNeg from (mg_rI (i := 22) R23 (mA13 rfl) (mg_A (t := 22) R23 rfl rfl) rfl), show S23.len (wkAd (gNetworks_excess S23 (α 2))) = 7 from (mg_len (i := 26) R23 (mA13 rfl) (mg_A (t := 26) R23 rfl rfl))]) (fun c9 h => ?_)
            obtain ⟨v26, hv26, h⟩ := mBN_some h
            refine LX9_at hv26 R23 sl2A rfl rfl ?_
            refine mGd h (by rw [show S23.rI (wkAd (gNetworks_to S23 (α 2))) (l3I).toNatClampNeg = V23.rI 22 (l3I).toNatClampNeg from (mg_rI (i := 22) R23 (mA13 rfl) (mg_A (t := 22) R23 rfl rfl) rfl), show S23.len (wkAd (gNetworks_excess S23 (α 2))) = 7 from (mg_len (i := 26) R23 (mA13 rfl) (mg_A (t := 26) R23 rfl rfl))]) (fun c10 h => ?_)
            obtain ⟨V32, eV32, h⟩ := mLt_some h
            refine mU_I eV32 R23 (mA13 rfl) (mg_A (t := 26) R23 rfl rfl) (by rw [show S23.rI (wkAd (gNetworks_to S23 (α 2))) (l3I).toNatClampNeg = V23.rI 22 (l3I).toNatClampNeg from (mg_rI (i := 22) R23 (mA13 rfl) (mg_A (t := 22) R23 rfl rfl) rfl)]) (by rw [show S23.rI (wkAd (gNetworks_excess S23 (α 2))) ((S23.rI (wkAd (gNetworks_to S23 (α 2))) (l3I).toNatClampNeg)).toNatClampNeg = V23.rI 26 ((V23.rI 22 (l3I).toNatClampNeg)).toNatClampNeg from (mg_rI (i := 26) R23 (mA13 rfl) (mg_A (t := 26) R23 rfl rfl) (by rw [show S23.rI (wkAd (gNetworks_to S23 (α 2))) (l3I).toNatClampNeg = V23.rI 22 (l3I).toNatClampNeg from (mg_rI (i := 22) R23 (mA13 rfl) (mg_A (t := 22) R23 rfl rfl) rfl)]))]) (fun S32 R32 F32 => ?_)
            refine mLet h rfl (fun x33 ex33 h => ?_)
            exact ih.1 _ _ _ _ _ _ R32 sl1A sl2A h (fun S1 R1 F1 => k S1 R1 (F23.tr (F32.tr F1)))
          · obtain ⟨rfl, rfl⟩ := mRW h
            exact k _ R mFr.rf
    · intro l1A l3I S V Ln R sl1A h k
      rw [mX7_judgeFlow_go, if_neg (by decide), if_pos rfl] at h
      rw [rX7_judgeFlow_go, if_neg (by decide), if_pos rfl]
      unfold mX7_judgeFlow_b1 at h
      unfold rX7_judgeFlow_b1
      refine mIf h (by rw [show gNetworks_nodeCount S (α 2) = V.fI 2 8 from (mg_I (i := 2) R (by decide) rfl 8)]) (fun c11 h => ?_) (fun c11 h => ?_)
      · refine mGd h (by rw [show S.len (wkAd (gNetworks_excess S (α 2))) = 7 from (mg_len (i := 26) R (mA13 rfl) (mg_A (t := 26) R rfl rfl))]) (fun c12 h => ?_)
        refine mIf h (by rw [show S.rI (wkAd (gNetworks_excess S (α 2))) ((0 : Int32)).toNatClampNeg = V.rI 26 ((0 : Int32)).toNatClampNeg from (mg_rI (i := 26) R (mA13 rfl) (mg_A (t := 26) R rfl rfl) rfl), show gEntry_boundNow S (α l1A) = V.fI l1A 8 from (mg_I (i := l1A) R (mO3 sl1A) rfl 8)]) (fun c13 h => ?_) (fun c13 h => ?_)
        · obtain ⟨rfl, rfl⟩ := mRW h
          exact k _ R mFr.rf
        · obtain ⟨rfl, rfl⟩ := mRW h
          exact k _ R mFr.rf
      · refine mGd h (by rw [show S.len (wkAd (gNetworks_excess S (α 2))) = 7 from (mg_len (i := 26) R (mA13 rfl) (mg_A (t := 26) R rfl rfl))]) (fun c14 h => ?_)
        refine mIf h (by rw [show S.rI (wkAd (gNetworks_excess S (α 2))) (l3I).toNatClampNeg = V.rI 26 (l3I).toNatClampNeg from (mg_rI (i := 26) R (mA13 rfl) (mg_A (t := 26) R rfl rfl) rfl)]) (fun c15 h => ?_) (fun c15 h => ?_)
        · refine mLet h rfl (fun x39 ex39 h => ?_)
          exact ih.2 _ _ _ _ _ R sl1A h (fun S1 R1 F1 => k S1 R1 F1)
        · obtain ⟨rfl, rfl⟩ := mRW h
          exact k _ R mFr.rf
set_option maxHeartbeats 4000000 in
set_option maxRecDepth 100000 in
theorem LX7_judgeFlow {α : Nat → Nat} {F : Nat} {S : wPS} {Ln : Nat → Nat} {V V1 : mV} {v : Int32} {Φ : (Int32 → wPS → Prop)} {l0Ax : Nat} {l1Ax : Nat} {l1A : Nat} {l2Ax : Nat} {l2A : Nat} (h : mX7_judgeFlow F Ln l1A l2A V = some (v, V1)) (R : mRel α S Ln V) (sl1A : mK l1A = 3) (sl2A : mK l2A = 9) (el0A : l0Ax = α 2) (el1A : l1Ax = α l1A) (el2A : l2Ax = α l2A) (k : (∀ S1, mRel α S1 Ln V1 → mFr α S S1 → Φ v S1)) : rX7_judgeFlow F l0Ax l1Ax l2Ax S Φ := by
  have el0A := el0A.symm
  subst el0A
  have el1A := el1A.symm
  subst el1A
  have el2A := el2A.symm
  subst el2A
  have ih := LX7_judgeFlow_go  (α := α) (F := F) (v := v) (Φ := Φ) (V1 := V1) F
  unfold mX7_judgeFlow mX7_judgeFlow_s at h
  unfold rX7_judgeFlow rX7_judgeFlow_s
  obtain ⟨v40, V41, hv40, h⟩ := mBW_some h
  refine LX7_loadFlows hv40 R sl1A rfl rfl (fun S41 R41 F41 => ?_)
  refine mIf h (by rw [show gNetworks_itemCount S41 (α 2) = V41.fI 2 9 from (mg_I (i := 2) R41 (by decide) rfl 9), show gRow_count S41 (α l2A) = V41.fI l2A 1 from (mg_I (i := l2A) R41 (mO9 sl2A) rfl 1)]) (fun c16 h => ?_) (fun c16 h => ?_)
  · obtain ⟨v46, V47, hv46, h⟩ := mBW_some h
    refine LJ7_fill_53178 hv46 R41 rfl (mg_A (t := 26) R41 rfl rfl) rfl (fun S47 R47 F47 => ?_)
    exact ih.1 _ _ _ _ _ _ R47 sl1A sl2A h (fun S1 R1 F1 => k S1 R1 (F41.tr (F47.tr F1)))
  · obtain ⟨rfl, rfl⟩ := mRW h
    exact k _ R41 F41
def mX7_judgeBar_b0 (F : Nat) (rec : Nat → (Nat → Nat) → Nat → Nat → Int32 → Int32 → mV → Option (Int32 × mV)) (Ln : Nat → Nat) (l1A : Nat) (l2A : Nat) (l3I : Int32) (l4I : Int32) (V : mV) : Option (Int32 × mV) :=
  (if (V.fI 2 9) ≤ l4I then (if (V.fI l1A 8) ≤ l3I then some ((2 : Int32), V) else some ((0 : Int32), V)) else (if l4I < 0 ∨ 10 ≤ (l4I).toNatClampNeg then none else (mBN (mX9_holds F Ln l2A ((0 : Int32)) ((V.rI 21 (l4I).toNatClampNeg)) V) fun v4 => (if v4 = 0 then (mLt (l4I + (1 : Int32)) fun x10 => (rec 0 Ln l1A l2A (l3I) (x10) V)) else (if l4I < 0 ∨ 10 ≤ (l4I).toNatClampNeg then none else (mBN (mX9_holds F Ln l2A ((0 : Int32)) ((V.rI 22 (l4I).toNatClampNeg)) V) fun v12 => (if v12 = 0 then (if l4I < 0 ∨ 10 ≤ (l4I).toNatClampNeg then none else (mLt (l3I + (V.rI 23 (l4I).toNatClampNeg)) fun x20 => (mLt (l4I + (1 : Int32)) fun x21 => (rec 0 Ln l1A l2A (x20) (x21) V)))) else (mLt (l4I + (1 : Int32)) fun x18 => (rec 0 Ln l1A l2A (l3I) (x18) V)))))))))
def mX7_judgeBar_go (F : Nat) : Nat → Nat → (Nat → Nat) → Nat → Nat → Int32 → Int32 → mV → Option (Int32 × mV)
  | 0, _, _, _, _, _, _, _ => none
  | k' + 1, lab, Ln, l1A, l2A, l3I, l4I, V => if lab = 0 then mX7_judgeBar_b0 F (mX7_judgeBar_go F k') Ln l1A l2A l3I l4I V else none
def mX7_judgeBar_s (F : Nat) (rec : Nat → (Nat → Nat) → Nat → Nat → Int32 → Int32 → mV → Option (Int32 × mV)) (Ln : Nat → Nat) (l1A : Nat) (l2A : Nat) (V : mV) : Option (Int32 × mV) :=
  (mBW (mX7_loadFlows F l1A V) fun v22 V23 => (if (V23.fI l2A 1) = 0 then some ((1 : Int32), V23) else (mBN (mX9_at F Ln l2A ((0 : Int32)) V23) fun v28 => (if v28 = 0 then (mBN (mX9_isRising F Ln l2A ((0 : Int32)) V23) fun v34 => (if v34 = 0 then some ((1 : Int32), V23) else (mBN (mX9_liesWithin F Ln l2A ((0 : Int32)) ((0 : Int32)) (((V23.fI 2 8) - (2 : Int32))) V23) fun v40 => (if v40 = 0 then some ((1 : Int32), V23) else (rec 0 Ln l1A l2A ((0 : Int32)) ((0 : Int32)) V23))))) else some ((1 : Int32), V23)))))
def mX7_judgeBar (F : Nat) (Ln : Nat → Nat) (l1A : Nat) (l2A : Nat) (V : mV) : Option (Int32 × mV) := mX7_judgeBar_s F (mX7_judgeBar_go F F) Ln l1A l2A V
set_option maxHeartbeats 4000000 in
set_option maxRecDepth 100000 in
theorem LX7_judgeBar_go {α : Nat → Nat} {F : Nat} {v : Int32} {V1 : mV} {Φ : (Int32 → wPS → Prop)} : ∀ k' : Nat, (∀ (l1A : Nat) (l2A : Nat) (l3I : Int32) (l4I : Int32) (S : wPS) (V : mV) (Ln : Nat → Nat) , mRel α S Ln V → mK l1A = 3 → mK l2A = 9 → mX7_judgeBar_go F k' 0 Ln l1A l2A l3I l4I V = some (v, V1) → (∀ S1, mRel α S1 Ln V1 → mFr α S S1 → Φ v S1) → rX7_judgeBar_go F k' 0 (α 2) (α l1A) (α l2A) l3I l4I S Φ) := by
  intro k'
  induction k' with
  | zero => exact (fun _ _ _ _ _ _ _ _ _ _ h _ => by cases h)
  | succ k' ih =>
    intro l1A l2A l3I l4I S V Ln R sl1A sl2A h k
    rw [mX7_judgeBar_go, if_pos rfl] at h
    rw [rX7_judgeBar_go, if_pos rfl]
    unfold mX7_judgeBar_b0 at h
    unfold rX7_judgeBar_b0
    refine mIf h (by rw [show gNetworks_itemCount S (α 2) = V.fI 2 9 from (mg_I (i := 2) R (by decide) rfl 9)]) (fun c1 h => ?_) (fun c1 h => ?_)
    · refine mIf h (by rw [show gEntry_boundNow S (α l1A) = V.fI l1A 8 from (mg_I (i := l1A) R (mO3 sl1A) rfl 8)]) (fun c2 h => ?_) (fun c2 h => ?_)
      · obtain ⟨rfl, rfl⟩ := mRW h
        exact k _ R mFr.rf
      · obtain ⟨rfl, rfl⟩ := mRW h
        exact k _ R mFr.rf
    · refine mGd h (by rw [show S.len (wkAd (gNetworks_from S (α 2))) = 10 from (mg_len (i := 21) R (mA13 rfl) (mg_A (t := 21) R rfl rfl))]) (fun c3 h => ?_)
      obtain ⟨v4, hv4, h⟩ := mBN_some h
      refine LX9_holds hv4 R sl2A rfl rfl (by rw [show S.rI (wkAd (gNetworks_from S (α 2))) (l4I).toNatClampNeg = V.rI 21 (l4I).toNatClampNeg from (mg_rI (i := 21) R (mA13 rfl) (mg_A (t := 21) R rfl rfl) rfl)]) ?_
      refine mIf h Iff.rfl (fun c4 h => ?_) (fun c4 h => ?_)
      · refine mLet h rfl (fun x10 ex10 h => ?_)
        exact ih _ _ _ _ _ _ _ R sl1A sl2A h (fun S1 R1 F1 => k S1 R1 F1)
      · refine mGd h (by rw [show S.len (wkAd (gNetworks_to S (α 2))) = 10 from (mg_len (i := 22) R (mA13 rfl) (mg_A (t := 22) R rfl rfl))]) (fun c5 h => ?_)
        obtain ⟨v12, hv12, h⟩ := mBN_some h
        refine LX9_holds hv12 R sl2A rfl rfl (by rw [show S.rI (wkAd (gNetworks_to S (α 2))) (l4I).toNatClampNeg = V.rI 22 (l4I).toNatClampNeg from (mg_rI (i := 22) R (mA13 rfl) (mg_A (t := 22) R rfl rfl) rfl)]) ?_
        refine mIf h Iff.rfl (fun c6 h => ?_) (fun c6 h => ?_)
        · refine mGd h (by rw [show S.len (wkAd (gNetworks_caps S (α 2))) = 10 from (mg_len (i := 23) R (mA13 rfl) (mg_A (t := 23) R rfl rfl))]) (fun c7 h => ?_)
          refine mLet h (by rw [show S.rI (wkAd (gNetworks_caps S (α 2))) (l4I).toNatClampNeg = V.rI 23 (l4I).toNatClampNeg from (mg_rI (i := 23) R (mA13 rfl) (mg_A (t := 23) R rfl rfl) rfl)]) (fun x20 ex20 h => ?_)
          refine mLet h rfl (fun x21 ex21 h => ?_)
          exact ih _ _ _ _ _ _ _ R sl1A sl2A h (fun S1 R1 F1 => k S1 R1 F1)
        · refine mLet h rfl (fun x18 ex18 h => ?_)
          exact ih _ _ _ _ _ _ _ R sl1A sl2A h (fun S1 R1 F1 => k S1 R1 F1)
set_option maxHeartbeats 4000000 in
set_option maxRecDepth 100000 in
theorem LX7_judgeBar {α : Nat → Nat} {F : Nat} {S : wPS} {Ln : Nat → Nat} {V V1 : mV} {v : Int32} {Φ : (Int32 → wPS → Prop)} {l0Ax : Nat} {l1Ax : Nat} {l1A : Nat} {l2Ax : Nat} {l2A : Nat} (h : mX7_judgeBar F Ln l1A l2A V = some (v, V1)) (R : mRel α S Ln V) (sl1A : mK l1A = 3) (sl2A : mK l2A = 9) (el0A : l0Ax = α 2) (el1A : l1Ax = α l1A) (el2A : l2Ax = α l2A) (k : (∀ S1, mRel α S1 Ln V1 → mFr α S S1 → Φ v S1)) : rX7_judgeBar F l0Ax l1Ax l2Ax S Φ := by
  have el0A := el0A.symm
  subst el0A
  have el1A := el1A.symm
  subst el1A
  have el2A := el2A.symm
  subst el2A
  have ih := LX7_judgeBar_go  (α := α) (F := F) (v := v) (Φ := Φ) (V1 := V1) F
  unfold mX7_judgeBar mX7_judgeBar_s at h
  unfold rX7_judgeBar rX7_judgeBar_s
  obtain ⟨v22, V23, hv22, h⟩ := mBW_some h
  refine LX7_loadFlows hv22 R sl1A rfl rfl (fun S23 R23 F23 => ?_)
  refine mIf h (by rw [show gRow_count S23 (α l2A) = V23.fI l2A 1 from (mg_I (i := l2A) R23 (mO9 sl2A) rfl 1)]) (fun c8 h => ?_) (fun c8 h => ?_)
  · obtain ⟨rfl, rfl⟩ := mRW h
    exact k _ R23 F23
  · obtain ⟨v28, hv28, h⟩ := mBN_some h
    refine LX9_at hv28 R23 sl2A rfl rfl ?_
    refine mIf h Iff.rfl (fun c9 h => ?_) (fun c9 h => ?_)
    · obtain ⟨v34, hv34, h⟩ := mBN_some h
      refine LX9_isRising hv34 R23 sl2A rfl rfl ?_
      refine mIf h Iff.rfl (fun c10 h => ?_) (fun c10 h => ?_)
      · obtain ⟨rfl, rfl⟩ := mRW h
        exact k _ R23 F23
      · obtain ⟨v40, hv40, h⟩ := mBN_some h
        refine LX9_liesWithin hv40 R23 sl2A rfl rfl rfl (by rw [show gNetworks_nodeCount S23 (α 2) = V23.fI 2 8 from (mg_I (i := 2) R23 (by decide) rfl 8)]) ?_
        refine mIf h Iff.rfl (fun c11 h => ?_) (fun c11 h => ?_)
        · obtain ⟨rfl, rfl⟩ := mRW h
          exact k _ R23 F23
        · exact ih _ _ _ _ _ _ _ R23 sl1A sl2A h (fun S1 R1 F1 => k S1 R1 (F23.tr F1))
    · obtain ⟨rfl, rfl⟩ := mRW h
      exact k _ R23 F23
def mX8_gather_b0 (F : Nat) (rec : Nat → Int32 → Int32 → Int32 → Int32 → mV → Option (Int32 × mV)) (l1I : Int32) (V : mV) : Option (Int32 × mV) :=
  (if (1000 : Int32) ≤ l1I then some ((-1 : Int32), V) else (rec 1 (l1I) ((-1 : Int32)) ((0 : Int32)) ((0 : Int32)) V))
def mX8_gather_b1 (F : Nat) (rec : Nat → Int32 → Int32 → Int32 → Int32 → mV → Option (Int32 × mV)) (l1I : Int32) (l2I : Int32) (l3I : Int32) (l4I : Int32) (V : mV) : Option (Int32 × mV) :=
  (if (V.fI 6 3) ≤ l4I then (if (1 : Int32) < l3I then (mBW (mX8_takeFromOthers F (l2I) V) fun v4 V5 => (mLt (l1I + (1 : Int32)) fun x9 => (rec 0 (x9) 0 0 0 V5))) else some (l2I, V)) else (if l4I < 0 ∨ 4 ≤ (l4I).toNatClampNeg then none else (if (lg_cmp (V.rJ 60 (l4I).toNatClampNeg) (0 : Int64)) = 0 then (mLt (l4I + (1 : Int32)) fun x12 => (rec 1 (l1I) (l2I) (l3I) (x12) V)) else (mLt (l3I + (1 : Int32)) fun x13 => (if l2I < 0 then (mLt (l4I + (1 : Int32)) fun x15 => (rec 1 (l1I) (l4I) (x13) (x15) V)) else (if l4I < 0 ∨ 4 ≤ (l4I).toNatClampNeg then none else (if l2I < 0 ∨ 4 ≤ (l2I).toNatClampNeg then none else (if 0 ≤ (lg_cmp (if 0 < (V.rJ 60 (l4I).toNatClampNeg) then (V.rJ 60 (l4I).toNatClampNeg) else -(V.rJ 60 (l4I).toNatClampNeg)) (if 0 < (V.rJ 60 (l2I).toNatClampNeg) then (V.rJ 60 (l2I).toNatClampNeg) else -(V.rJ 60 (l2I).toNatClampNeg))) then (mLt (l4I + (1 : Int32)) fun x19 => (rec 1 (l1I) (l2I) (x13) (x19) V)) else (mLt (l4I + (1 : Int32)) fun x20 => (rec 1 (l1I) (l4I) (x13) (x20) V))))))))))
def mX8_gather_go (F : Nat) : Nat → Nat → Int32 → Int32 → Int32 → Int32 → mV → Option (Int32 × mV)
  | 0, _, _, _, _, _, _ => none
  | k' + 1, lab, l1I, l2I, l3I, l4I, V => if lab = 0 then mX8_gather_b0 F (mX8_gather_go F k') l1I V else if lab = 1 then mX8_gather_b1 F (mX8_gather_go F k') l1I l2I l3I l4I V else none
def mX8_gather_s (F : Nat) (rec : Nat → Int32 → Int32 → Int32 → Int32 → mV → Option (Int32 × mV)) (V : mV) : Option (Int32 × mV) :=
  (rec 0 ((0 : Int32)) 0 0 0 V)
def mX8_gather (F : Nat) (V : mV) : Option (Int32 × mV) := mX8_gather_s F (mX8_gather_go F F) V
set_option maxHeartbeats 4000000 in
set_option maxRecDepth 100000 in
theorem LX8_gather_go {α : Nat → Nat} {F : Nat} {Ln : Nat → Nat} {v : Int32} {V1 : mV} {Φ : (Int32 → wPS → Prop)} : ∀ k' : Nat, (∀ (l1I : Int32) (S : wPS) (V : mV) , mRel α S Ln V → mX8_gather_go F k' 0 l1I 0 0 0 V = some (v, V1) → (∀ S1, mRel α S1 Ln V1 → mFr α S S1 → Φ v S1) → rX8_gather_go F k' 0 (α 6) l1I 0 0 0 S Φ) ∧ (∀ (l1I : Int32) (l2I : Int32) (l3I : Int32) (l4I : Int32) (S : wPS) (V : mV) , mRel α S Ln V → mX8_gather_go F k' 1 l1I l2I l3I l4I V = some (v, V1) → (∀ S1, mRel α S1 Ln V1 → mFr α S S1 → Φ v S1) → rX8_gather_go F k' 1 (α 6) l1I l2I l3I l4I S Φ) := by
  intro k'
  induction k' with
  | zero => exact ⟨(fun _ _ _ _ h _ => by cases h), (fun _ _ _ _ _ _ _ h _ => by cases h)⟩
  | succ k' ih =>
    refine ⟨?_, ?_⟩
    · intro l1I S V R h k
      rw [mX8_gather_go, if_pos rfl] at h
      rw [rX8_gather_go, if_pos rfl]
      unfold mX8_gather_b0 at h
      unfold rX8_gather_b0
      refine mIf h Iff.rfl (fun c1 h => ?_) (fun c1 h => ?_)
      · obtain ⟨rfl, rfl⟩ := mRW h
        exact k _ R mFr.rf
      · exact ih.2 _ _ _ _ _ _ R h (fun S1 R1 F1 => k S1 R1 F1)
    · intro l1I l2I l3I l4I S V R h k
      rw [mX8_gather_go, if_neg (by decide), if_pos rfl] at h
      rw [rX8_gather_go, if_neg (by decide), if_pos rfl]
      unfold mX8_gather_b1 at h
      unfold rX8_gather_b1
      refine mIf h (by rw [show gNumbers_basisCount S (α 6) = V.fI 6 3 from (mg_I (i := 6) R (by decide) rfl 3)]) (fun c2 h => ?_) (fun c2 h => ?_)
      · refine mIf h Iff.rfl (fun c3 h => ?_) (fun c3 h => ?_)
        · obtain ⟨v4, V5, hv4, h⟩ := mBW_some h
          refine LX8_takeFromOthers hv4 R rfl rfl (fun S5 R5 F5 => ?_)
          refine mLet h rfl (fun x9 ex9 h => ?_)
          exact ih.1 _ _ _ R5 h (fun S1 R1 F1 => k S1 R1 (F5.tr F1))
        · obtain ⟨rfl, rfl⟩ := mRW h
          exact k _ R mFr.rf
      · refine mGd h (by rw [show S.len (wkAd (gNumbers_amounts S (α 6))) = 4 from (mg_len (i := 60) R (mA14 rfl) (mg_A (t := 60) R rfl rfl))]) (fun c4 h => ?_)
        refine mIf h (by rw [show S.rJ (wkAd (gNumbers_amounts S (α 6))) (l4I).toNatClampNeg = V.rJ 60 (l4I).toNatClampNeg from (mg_rJ (i := 60) R (mA14 rfl) (mg_A (t := 60) R rfl rfl) rfl)]) (fun c5 h => ?_) (fun c5 h => ?_)
        · refine mLet h rfl (fun x12 ex12 h => ?_)
          exact ih.2 _ _ _ _ _ _ R h (fun S1 R1 F1 => k S1 R1 F1)
        · refine mLet h rfl (fun x13 ex13 h => ?_)
          refine mIf h Iff.rfl (fun c6 h => ?_) (fun c6 h => ?_)
          · refine mLet h rfl (fun x15 ex15 h => ?_)
            exact ih.2 _ _ _ _ _ _ R h (fun S1 R1 F1 => k S1 R1 F1)
          · refine mGd h (by rw [show S.len (wkAd (gNumbers_amounts S (α 6))) = 4 from (mg_len (i := 60) R (mA14 rfl) (mg_A (t := 60) R rfl rfl))]) (fun c7 h => ?_)
            refine mGd h (by rw [show S.len (wkAd (gNumbers_amounts S (α 6))) = 4 from (mg_len (i := 60) R (mA14 rfl) (mg_A (t := 60) R rfl rfl))]) (fun c8 h => ?_)
            refine mIf h (by rw [show S.rJ (wkAd (gNumbers_amounts S (α 6))) (l4I).toNatClampNeg = V.rJ 60 (l4I).toNatClampNeg from (mg_rJ (i := 60) R (mA14 rfl) (mg_A (t := 60) R rfl rfl) rfl), show S.rJ (wkAd (gNumbers_amounts S (α 6))) (l2I).toNatClampNeg = V.rJ 60 (l2I).toNatClampNeg from (mg_rJ (i := 60) R (mA14 rfl) (mg_A (t := 60) R rfl rfl) rfl)]) (fun c9 h => ?_) (fun c9 h => ?_)
            · refine mLet h rfl (fun x19 ex19 h => ?_)
              exact ih.2 _ _ _ _ _ _ R h (fun S1 R1 F1 => k S1 R1 F1)
            · refine mLet h rfl (fun x20 ex20 h => ?_)
              exact ih.2 _ _ _ _ _ _ R h (fun S1 R1 F1 => k S1 R1 F1)
set_option maxHeartbeats 4000000 in
set_option maxRecDepth 100000 in
theorem LX8_gather {α : Nat → Nat} {F : Nat} {S : wPS} {Ln : Nat → Nat} {V V1 : mV} {v : Int32} {Φ : (Int32 → wPS → Prop)} {l0Ax : Nat} (h : mX8_gather F V = some (v, V1)) (R : mRel α S Ln V) (el0A : l0Ax = α 6) (k : (∀ S1, mRel α S1 Ln V1 → mFr α S S1 → Φ v S1)) : rX8_gather F l0Ax S Φ := by
  have el0A := el0A.symm
  subst el0A
  have ih := LX8_gather_go  (α := α) (F := F) (v := v) (Ln := Ln) (Φ := Φ) (V1 := V1) F
  unfold mX8_gather mX8_gather_s at h
  unfold rX8_gather rX8_gather_s
  exact ih.1 _ _ _ R h (fun S1 R1 F1 => k S1 R1 F1)
def mX8_takeLeastAmount_b0 (F : Nat) (rec : Nat → Int32 → Int32 → mV → Option (Unit × mV)) (l1I : Int32) (l2I : Int32) (V : mV) : Option (Unit × mV) :=
  (if (V.fI 6 3) ≤ l2I then (mBW (mX8_gather F V) fun v2 V3 => (if v2 < 0 then some ((), V3) else (if v2 < 0 ∨ 4 ≤ (v2).toNatClampNeg then none else (if (lg_cmp (V3.rJ 60 (v2).toNatClampNeg) (0 : Int64)) = 0 then some ((), V3) else (if v2 < 0 ∨ 4 ≤ (v2).toNatClampNeg then none else (mLt (if 0 < (V3.rJ 60 (v2).toNatClampNeg) then (V3.rJ 60 (v2).toNatClampNeg) else -(V3.rJ 60 (v2).toNatClampNeg)) fun x11 => (if l1I < 0 ∨ 4 ≤ (l1I).toNatClampNeg then none else (mBN (mJ9_floorMod_f86c9 F ((V3.rJ 54 (l1I).toNatClampNeg)) (x11)) fun v13 => (if (lg_cmp v13 (x11 - v13)) ≤ 0 then (if l1I < 0 ∨ 4 ≤ (l1I).toNatClampNeg then none else (if v2 < 0 ∨ 4 ≤ (v2).toNatClampNeg then none else (if (V3.rJ 60 (v2).toNatClampNeg) = 0 then none else (mBW (mX8_movePoint F (v2) (((v13 - (V3.rJ 54 (l1I).toNatClampNeg)) / (V3.rJ 60 (v2).toNatClampNeg))) V3) fun v22 V23 => (mBW (mX8_removeBasis F (v2) V23) fun v27 V28 => some ((), V28)))))) else (mLt (v13 - x11) fun x32 => (if l1I < 0 ∨ 4 ≤ (l1I).toNatClampNeg then none else (if v2 < 0 ∨ 4 ≤ (v2).toNatClampNeg then none else (if (V3.rJ 60 (v2).toNatClampNeg) = 0 then none else (mBW (mX8_movePoint F (v2) (((x32 - (V3.rJ 54 (l1I).toNatClampNeg)) / (V3.rJ 60 (v2).toNatClampNeg))) V3) fun v36 V37 => (mBW (mX8_removeBasis F (v2) V37) fun v41 V42 => some ((), V42)))))))))))))))) else (if l2I < 0 ∨ 4 ≤ (l2I).toNatClampNeg then none else (if l1I < 0 ∨ 4 ≤ (l1I).toNatClampNeg then none else (if l2I < 0 ∨ 4 ≤ (l2I).toNatClampNeg then none else (mLt (mJ V 60 (l2I) ((V.rJ (56 + (l2I).toNatClampNeg) (l1I).toNatClampNeg))) fun V50 => (mLt (l2I + (1 : Int32)) fun x51 => (rec 0 (l1I) (x51) V50)))))))
def mX8_takeLeastAmount_go (F : Nat) : Nat → Nat → Int32 → Int32 → mV → Option (Unit × mV)
  | 0, _, _, _, _ => none
  | k' + 1, lab, l1I, l2I, V => if lab = 0 then mX8_takeLeastAmount_b0 F (mX8_takeLeastAmount_go F k') l1I l2I V else none
def mX8_takeLeastAmount_s (F : Nat) (rec : Nat → Int32 → Int32 → mV → Option (Unit × mV)) (l1I : Int32) (V : mV) : Option (Unit × mV) :=
  (rec 0 (l1I) ((0 : Int32)) V)
def mX8_takeLeastAmount (F : Nat) (l1I : Int32) (V : mV) : Option (Unit × mV) := mX8_takeLeastAmount_s F (mX8_takeLeastAmount_go F F) l1I V
set_option maxHeartbeats 4000000 in
set_option maxRecDepth 100000 in
theorem LX8_takeLeastAmount_go {α : Nat → Nat} {F : Nat} {Ln : Nat → Nat} {v : Unit} {V1 : mV} {Φ : (Unit → wPS → Prop)} : ∀ k' : Nat, (∀ (l1I : Int32) (l2I : Int32) (S : wPS) (V : mV) , mRel α S Ln V → mX8_takeLeastAmount_go F k' 0 l1I l2I V = some (v, V1) → (∀ S1, mRel α S1 Ln V1 → mFr α S S1 → Φ v S1) → rX8_takeLeastAmount_go F k' 0 (α 6) l1I l2I S Φ) := by
  intro k'
  induction k' with
  | zero => exact (fun _ _ _ _ _ h _ => by cases h)
  | succ k' ih =>
    intro l1I l2I S V R h k
    rw [mX8_takeLeastAmount_go, if_pos rfl] at h
    rw [rX8_takeLeastAmount_go, if_pos rfl]
    unfold mX8_takeLeastAmount_b0 at h
    unfold rX8_takeLeastAmount_b0
    refine mIf h (by rw [show gNumbers_basisCount S (α 6) = V.fI 6 3 from (mg_I (i := 6) R (by decide) rfl 3)]) (fun c1 h => ?_) (fun c1 h => ?_)
    · obtain ⟨v2, V3, hv2, h⟩ := mBW_some h
      refine LX8_gather hv2 R rfl (fun S3 R3 F3 => ?_)
      refine mIf h Iff.rfl (fun c2 h => ?_) (fun c2 h => ?_)
      · obtain ⟨rfl, rfl⟩ := mRW h
        exact k _ R3 F3
      · refine mGd h (by rw [show S3.len (wkAd (gNumbers_amounts S3 (α 6))) = 4 from (mg_len (i := 60) R3 (mA14 rfl) (mg_A (t := 60) R3 rfl rfl))]) (fun c3 h => ?_)
        refine mIf h (by rw [show S3.rJ (wkAd (gNumbers_amounts S3 (α 6))) (v2).toNatClampNeg = V3.rJ 60 (v2).toNatClampNeg from (mg_rJ (i := 60) R3 (mA14 rfl) (mg_A (t := 60) R3 rfl rfl) rfl)]) (fun c4 h => ?_) (fun c4 h => ?_)
        · obtain ⟨rfl, rfl⟩ := mRW h
          exact k _ R3 F3
        · refine mGd h (by rw [show S3.len (wkAd (gNumbers_amounts S3 (α 6))) = 4 from (mg_len (i := 60) R3 (mA14 rfl) (mg_A (t := 60) R3 rfl rfl))]) (fun c5 h => ?_)
          refine mLet h (by rw [show S3.rJ (wkAd (gNumbers_amounts S3 (α 6))) (v2).toNatClampNeg = V3.rJ 60 (v2).toNatClampNeg from (mg_rJ (i := 60) R3 (mA14 rfl) (mg_A (t := 60) R3 rfl rfl) rfl)]) (fun x11 ex11 h => ?_)
          refine mGd h (by rw [show S3.len (wkAd (gNumbers_point S3 (α 6))) = 4 from (mg_len (i := 54) R3 (mA14 rfl) (mg_A (t := 54) R3 rfl rfl))]) (fun c6 h => ?_)
          obtain ⟨v13, hv13, h⟩ := mBN_some h
          refine LJ9_floorMod_f86c9 hv13 (by rw [show S3.rJ (wkAd (gNumbers_point S3 (α 6))) (l1I).toNatClampNeg = V3.rJ 54 (l1I).toNatClampNeg from (mg_rJ (i := 54) R3 (mA14 rfl) (mg_A (t := 54) R3 rfl rfl) rfl)]) rfl ?_
          refine mIf h Iff.rfl (fun c7 h => ?_) (fun c7 h => ?_)
          · refine mGd h (by rw [show S3.len (wkAd (gNumbers_point S3 (α 6))) = 4 from (mg_len (i := 54) R3 (mA14 rfl) (mg_A (t := 54) R3 rfl rfl))]) (fun c8 h => ?_)
            refine mGd h (by rw [show S3.len (wkAd (gNumbers_amounts S3 (α 6))) = 4 from (mg_len (i := 60) R3 (mA14 rfl) (mg_A (t := 60) R3 rfl rfl))]) (fun c9 h => ?_)
            refine mGd h (by rw [show S3.rJ (wkAd (gNumbers_amounts S3 (α 6))) (v2).toNatClampNeg = V3.rJ 60 (v2).toNatClampNeg from (mg_rJ (i := 60) R3 (mA14 rfl) (mg_A (t := 60) R3 rfl rfl) rfl)]) (fun c10 h => ?_)
            obtain ⟨v22, V23, hv22, h⟩ := mBW_some h
            refine LX8_movePoint hv22 R3 rfl rfl (by rw [show S3.rJ (wkAd (gNumbers_amounts S3 (α 6))) (v2).toNatClampNeg = V3.rJ 60 (v2).toNatClampNeg from (mg_rJ (i := 60) R3 (mA14 rfl) (mg_A (t := 60) R3 rfl rfl) rfl), show S3.rJ (wkAd (gNumbers_point S3 (α 6))) (l1I).toNatClampNeg = V3.rJ 54 (l1I).toNatClampNeg from (mg_rJ (i := 54) R3 (mA14 rfl) (mg_A (t := 54) R3 rfl rfl) rfl)]) (fun S23 R23 F23 => ?_)
            obtain ⟨v27, V28, hv27, h⟩ := mBW_some h
            refine LX8_removeBasis hv27 R23 rfl rfl (fun S28 R28 F28 => ?_)
            obtain ⟨rfl, rfl⟩ := mRW h
            exact k _ R28 (F3.tr (F23.tr F28))
          · refine mLet h rfl (fun x32 ex32 h => ?_)
            refine mGd h (by rw [show S3.len (wkAd (gNumbers_point S3 (α 6))) = 4 from (mg_len (i := 54) R3 (mA14 rfl) (mg_A (t := 54) R3 rfl rfl))]) (fun c11 h => ?_)
            refine mGd h (by rw [show S3.len (wkAd (gNumbers_amounts S3 (α 6))) = 4 from (mg_len (i := 60) R3 (mA14 rfl) (mg_A (t := 60) R3 rfl rfl))]) (fun c12 h => ?_)
            refine mGd h (by rw [show S3.rJ (wkAd (gNumbers_amounts S3 (α 6))) (v2).toNatClampNeg = V3.rJ 60 (v2).toNatClampNeg from (mg_rJ (i := 60) R3 (mA14 rfl) (mg_A (t := 60) R3 rfl rfl) rfl)]) (fun c13 h => ?_)
            obtain ⟨v36, V37, hv36, h⟩ := mBW_some h
            refine LX8_movePoint hv36 R3 rfl rfl (by rw [show S3.rJ (wkAd (gNumbers_amounts S3 (α 6))) (v2).toNatClampNeg = V3.rJ 60 (v2).toNatClampNeg from (mg_rJ (i := 60) R3 (mA14 rfl) (mg_A (t := 60) R3 rfl rfl) rfl), show S3.rJ (wkAd (gNumbers_point S3 (α 6))) (l1I).toNatClampNeg = V3.rJ 54 (l1I).toNatClampNeg from (mg_rJ (i := 54) R3 (mA14 rfl) (mg_A (t := 54) R3 rfl rfl) rfl)]) (fun S37 R37 F37 => ?_)
            obtain ⟨v41, V42, hv41, h⟩ := mBW_some h
            refine LX8_removeBasis hv41 R37 rfl rfl (fun S42 R42 F42 => ?_)
            obtain ⟨rfl, rfl⟩ := mRW h
            exact k _ R42 (F3.tr (F37.tr F42))
    · refine mGd h (by rw [show S.len (wkAd (gNumbers_basis S (α 6))) = 4 from (mg_len (i := 55) R (mAr (by decide)) (mg_A (t := 55) R rfl rfl))]) (fun c14 h => ?_)
      refine mGd h (by rw [show S.len (wkAd (S.rA (wkAd (gNumbers_basis S (α 6))) (l2I).toNatClampNeg)) = 4 from ((mg_len R (mA14 (mKA55 (Nat.lt_of_not_le (fun z => c14 (Or.inr z))))) (mg_RA R (mRA55 (Nat.lt_of_not_le (fun z => c14 (Or.inr z)))) (mg_A (t := 55) R rfl rfl) rfl)).trans (mLA55 (Nat.lt_of_not_le (fun z => c14 (Or.inr z)))))]) (fun c15 h => ?_)
      refine mGd h (by rw [show S.len (wkAd (gNumbers_amounts S (α 6))) = 4 from (mg_len (i := 60) R (mA14 rfl) (mg_A (t := 60) R rfl rfl))]) (fun c16 h => ?_)
      obtain ⟨V50, eV50, h⟩ := mLt_some h
      refine mU_J eV50 R (mA14 rfl) (mg_A (t := 60) R rfl rfl) rfl (by rw [show S.rJ (wkAd (S.rA (wkAd (gNumbers_basis S (α 6))) (l2I).toNatClampNeg)) (l1I).toNatClampNeg = V.rJ (56 + (l2I).toNatClampNeg) (l1I).toNatClampNeg from (mg_rJ (i := (56 + (l2I).toNatClampNeg)) R (mA14 (mKA55 (Nat.lt_of_not_le (fun z => c16 (Or.inr z))))) (mg_RA R (mRA55 (Nat.lt_of_not_le (fun z => c16 (Or.inr z)))) (mg_A (t := 55) R rfl rfl) rfl) rfl)]) (fun S50 R50 F50 => ?_)
      refine mLet h rfl (fun x51 ex51 h => ?_)
      exact ih _ _ _ _ R50 h (fun S1 R1 F1 => k S1 R1 (F50.tr F1))
set_option maxHeartbeats 4000000 in
set_option maxRecDepth 100000 in
theorem LX8_takeLeastAmount {α : Nat → Nat} {F : Nat} {S : wPS} {Ln : Nat → Nat} {V V1 : mV} {v : Unit} {Φ : (Unit → wPS → Prop)} {l0Ax : Nat} {l1Ix l1I : Int32} (h : mX8_takeLeastAmount F l1I V = some (v, V1)) (R : mRel α S Ln V) (el0A : l0Ax = α 6) (el1I : l1Ix = l1I) (k : (∀ S1, mRel α S1 Ln V1 → mFr α S S1 → Φ v S1)) : rX8_takeLeastAmount F l0Ax l1Ix S Φ := by
  have el0A := el0A.symm
  subst el0A
  have el1I := el1I.symm
  subst el1I
  have ih := LX8_takeLeastAmount_go  (α := α) (F := F) (v := v) (Ln := Ln) (Φ := Φ) (V1 := V1) F
  unfold mX8_takeLeastAmount mX8_takeLeastAmount_s at h
  unfold rX8_takeLeastAmount rX8_takeLeastAmount_s
  exact ih _ _ _ _ R h (fun S1 R1 F1 => k S1 R1 F1)
def mX8_judgeUnknowns_b0 (F : Nat) (rec : Nat → (Nat → Nat) → Nat → Nat → Int32 → Int64 → Int32 → mV → Option Int32) (Ln : Nat → Nat) (l1A : Nat) (l2A : Nat) (l3I : Int32) (V : mV) : Option Int32 :=
  (if (V.fI l1A 6) ≤ l3I then some ((0 : Int32)) else (rec 1 Ln l1A l2A (l3I) ((0 : Int64)) ((0 : Int32)) V))
def mX8_judgeUnknowns_b1 (F : Nat) (rec : Nat → (Nat → Nat) → Nat → Nat → Int32 → Int64 → Int32 → mV → Option Int32) (Ln : Nat → Nat) (l1A : Nat) (l2A : Nat) (l3I : Int32) (l4J : Int64) (l6I : Int32) (V : mV) : Option Int32 :=
  (if (V.fI l1A 1) ≤ l6I then (mBN (mX8_rightSide F l1A (l3I) V) fun v3 => (if (lg_cmp l4J (Int32.toInt64 v3)) = 0 then (mLt (l3I + (1 : Int32)) fun x9 => (rec 0 Ln l1A l2A (x9) 0 0 V)) else some ((2 : Int32)))) else (mBN (mX3_at F l1A (l3I) (l6I) V) fun v10 => (mBN (mX9_at F Ln l2A (l6I) V) fun v15 => (mLt (l4J + ((Int32.toInt64 v10) * (Int32.toInt64 v15))) fun x20 => (mLt (l6I + (1 : Int32)) fun x21 => (rec 1 Ln l1A l2A (l3I) (x20) (x21) V))))))
def mX8_judgeUnknowns_go (F : Nat) : Nat → Nat → (Nat → Nat) → Nat → Nat → Int32 → Int64 → Int32 → mV → Option Int32
  | 0, _, _, _, _, _, _, _, _ => none
  | k' + 1, lab, Ln, l1A, l2A, l3I, l4J, l6I, V => if lab = 0 then mX8_judgeUnknowns_b0 F (mX8_judgeUnknowns_go F k') Ln l1A l2A l3I V else if lab = 1 then mX8_judgeUnknowns_b1 F (mX8_judgeUnknowns_go F k') Ln l1A l2A l3I l4J l6I V else none
def mX8_judgeUnknowns_s (F : Nat) (rec : Nat → (Nat → Nat) → Nat → Nat → Int32 → Int64 → Int32 → mV → Option Int32) (Ln : Nat → Nat) (l1A : Nat) (l2A : Nat) (V : mV) : Option Int32 :=
  (if (V.fI l2A 1) = (V.fI l1A 1) then (rec 0 Ln l1A l2A ((0 : Int32)) 0 0 V) else some ((1 : Int32)))
def mX8_judgeUnknowns (F : Nat) (Ln : Nat → Nat) (l1A : Nat) (l2A : Nat) (V : mV) : Option Int32 := mX8_judgeUnknowns_s F (mX8_judgeUnknowns_go F F) Ln l1A l2A V
set_option maxHeartbeats 4000000 in
set_option maxRecDepth 100000 in
theorem LX8_judgeUnknowns_go {α : Nat → Nat} {F : Nat} {v : Int32} {Φ : (Int32 → wPS → Prop)} : ∀ k' : Nat, (∀ (l1A : Nat) (l2A : Nat) (l3I : Int32) (S : wPS) (V : mV) (Ln : Nat → Nat) , mRel α S Ln V → mK l1A = 3 → mK l2A = 9 → mX8_judgeUnknowns_go F k' 0 Ln l1A l2A l3I 0 0 V = some v → (Φ v S) → rX8_judgeUnknowns_go F k' 0 (α l1A) (α l2A) l3I 0 0 S Φ) ∧ (∀ (l1A : Nat) (l2A : Nat) (l3I : Int32) (l4J : Int64) (l6I : Int32) (S : wPS) (V : mV) (Ln : Nat → Nat) , mRel α S Ln V → mK l1A = 3 → mK l2A = 9 → mX8_judgeUnknowns_go F k' 1 Ln l1A l2A l3I l4J l6I V = some v → (Φ v S) → rX8_judgeUnknowns_go F k' 1 (α l1A) (α l2A) l3I l4J l6I S Φ) := by
  intro k'
  induction k' with
  | zero => exact ⟨(fun _ _ _ _ _ _ _ _ _ h _ => by cases h), (fun _ _ _ _ _ _ _ _ _ _ _ h _ => by cases h)⟩
  | succ k' ih =>
    refine ⟨?_, ?_⟩
    · intro l1A l2A l3I S V Ln R sl1A sl2A h k
      rw [mX8_judgeUnknowns_go, if_pos rfl] at h
      rw [rX8_judgeUnknowns_go, if_pos rfl]
      unfold mX8_judgeUnknowns_b0 at h
      unfold rX8_judgeUnknowns_b0
      refine mIf h (by rw [show gEntry_itemCount S (α l1A) = V.fI l1A 6 from (mg_I (i := l1A) R (mO3 sl1A) rfl 6)]) (fun c1 h => ?_) (fun c1 h => ?_)
      · cases h
        exact k
      · exact ih.2 _ _ _ _ _ _ _ _ R sl1A sl2A h k
    · intro l1A l2A l3I l4J l6I S V Ln R sl1A sl2A h k
      rw [mX8_judgeUnknowns_go, if_neg (by decide), if_pos rfl] at h
      rw [rX8_judgeUnknowns_go, if_neg (by decide), if_pos rfl]
      unfold mX8_judgeUnknowns_b1 at h
      unfold rX8_judgeUnknowns_b1
      refine mIf h (by rw [show gEntry_size S (α l1A) = V.fI l1A 1 from (mg_I (i := l1A) R (mO3 sl1A) rfl 1)]) (fun c2 h => ?_) (fun c2 h => ?_)
      · obtain ⟨v3, hv3, h⟩ := mBN_some h
        refine LX8_rightSide hv3 R sl1A rfl rfl ?_
        refine mIf h Iff.rfl (fun c3 h => ?_) (fun c3 h => ?_)
        · refine mLet h rfl (fun x9 ex9 h => ?_)
          exact ih.1 _ _ _ _ _ _ R sl1A sl2A h k
        · cases h
          exact k
      · obtain ⟨v10, hv10, h⟩ := mBN_some h
        refine LX3_at hv10 R sl1A rfl rfl rfl ?_
        obtain ⟨v15, hv15, h⟩ := mBN_some h
        refine LX9_at hv15 R sl2A rfl rfl ?_
        refine mLet h rfl (fun x20 ex20 h => ?_)
        refine mLet h rfl (fun x21 ex21 h => ?_)
        exact ih.2 _ _ _ _ _ _ _ _ R sl1A sl2A h k
set_option maxHeartbeats 4000000 in
set_option maxRecDepth 100000 in
theorem LX8_judgeUnknowns {α : Nat → Nat} {F : Nat} {S : wPS} {Ln : Nat → Nat} {V : mV} {v : Int32} {Φ : (Int32 → wPS → Prop)} {l0Ax : Nat} {l1Ax : Nat} {l1A : Nat} {l2Ax : Nat} {l2A : Nat} (h : mX8_judgeUnknowns F Ln l1A l2A V = some v) (R : mRel α S Ln V) (sl1A : mK l1A = 3) (sl2A : mK l2A = 9) (el0A : l0Ax = α 6) (el1A : l1Ax = α l1A) (el2A : l2Ax = α l2A) (k : (Φ v S)) : rX8_judgeUnknowns F l0Ax l1Ax l2Ax S Φ := by
  have el0A := el0A.symm
  subst el0A
  have el1A := el1A.symm
  subst el1A
  have el2A := el2A.symm
  subst el2A
  have ih := LX8_judgeUnknowns_go  (α := α) (F := F) (v := v) (Φ := Φ) F
  unfold mX8_judgeUnknowns mX8_judgeUnknowns_s at h
  unfold rX8_judgeUnknowns rX8_judgeUnknowns_s
  refine mIf h (by rw [show gEntry_size S (α l1A) = V.fI l1A 1 from (mg_I (i := l1A) R (mO3 sl1A) rfl 1), show gRow_count S (α l2A) = V.fI l2A 1 from (mg_I (i := l2A) R (mO9 sl2A) rfl 1)]) (fun c4 h => ?_) (fun c4 h => ?_)
  · exact ih.1 _ _ _ _ _ _ R sl1A sl2A h k
  · cases h
    exact k
def mX8_judgeModulus (F : Nat) (Ln : Nat → Nat) (l1A : Nat) (l2A : Nat) (V : mV) : Option Int32 :=
  (if (V.fI l2A 1) = ((V.fI l1A 6) + (1 : Int32)) then (mBN (mX9_at F Ln l2A ((0 : Int32)) V) fun v2 => (if (2 : Int32) ≤ v2 then (mBN (mX9_at F Ln l2A ((0 : Int32)) V) fun v8 => (mBN (mX9_at F Ln l2A ((1 : Int32)) V) fun v13 => (mBN (mX9_at F Ln l2A ((2 : Int32)) V) fun v18 => (mBN (mX8_areMultiples F l1A ((Int32.toInt64 v8)) ((Int32.toInt64 v13)) ((Int32.toInt64 v18)) V) fun v23 => (if v23 = 0 then some ((2 : Int32)) else (mBN (mX9_at F Ln l2A ((0 : Int32)) V) fun v29 => (mBN (mX9_at F Ln l2A ((1 : Int32)) V) fun v34 => (mBN (mX9_at F Ln l2A ((2 : Int32)) V) fun v39 => (mBN (mX8_isNoMultiple F l1A ((Int32.toInt64 v29)) ((Int32.toInt64 v34)) ((Int32.toInt64 v39)) V) fun v44 => (if v44 = 0 then some ((3 : Int32)) else some ((0 : Int32)))))))))))) else some ((1 : Int32)))) else some ((1 : Int32)))
set_option maxHeartbeats 4000000 in
set_option maxRecDepth 100000 in
theorem LX8_judgeModulus {α : Nat → Nat} {F : Nat} {S : wPS} {Ln : Nat → Nat} {V : mV} {v : Int32} {Φ : (Int32 → wPS → Prop)} {l0Ax : Nat} {l1Ax : Nat} {l1A : Nat} {l2Ax : Nat} {l2A : Nat} (h : mX8_judgeModulus F Ln l1A l2A V = some v) (R : mRel α S Ln V) (sl1A : mK l1A = 3) (sl2A : mK l2A = 9) (el0A : l0Ax = α 6) (el1A : l1Ax = α l1A) (el2A : l2Ax = α l2A) (k : (Φ v S)) : rX8_judgeModulus F l0Ax l1Ax l2Ax S Φ := by
  have el0A := el0A.symm
  subst el0A
  have el1A := el1A.symm
  subst el1A
  have el2A := el2A.symm
  subst el2A
  unfold mX8_judgeModulus at h
  unfold rX8_judgeModulus
  refine mIf h (by rw [show gEntry_itemCount S (α l1A) = V.fI l1A 6 from (mg_I (i := l1A) R (mO3 sl1A) rfl 6), show gRow_count S (α l2A) = V.fI l2A 1 from (mg_I (i := l2A) R (mO9 sl2A) rfl 1)]) (fun c1 h => ?_) (fun c1 h => ?_)
  · obtain ⟨v2, hv2, h⟩ := mBN_some h
    refine LX9_at hv2 R sl2A rfl rfl ?_
    refine mIf h Iff.rfl (fun c2 h => ?_) (fun c2 h => ?_)
    · obtain ⟨v8, hv8, h⟩ := mBN_some h
      refine LX9_at hv8 R sl2A rfl rfl ?_
      obtain ⟨v13, hv13, h⟩ := mBN_some h
      refine LX9_at hv13 R sl2A rfl rfl ?_
      obtain ⟨v18, hv18, h⟩ := mBN_some h
      refine LX9_at hv18 R sl2A rfl rfl ?_
      obtain ⟨v23, hv23, h⟩ := mBN_some h
      refine LX8_areMultiples hv23 R sl1A rfl rfl rfl rfl ?_
      refine mIf h Iff.rfl (fun c3 h => ?_) (fun c3 h => ?_)
      · cases h
        exact k
      · obtain ⟨v29, hv29, h⟩ := mBN_some h
        refine LX9_at hv29 R sl2A rfl rfl ?_
        obtain ⟨v34, hv34, h⟩ := mBN_some h
        refine LX9_at hv34 R sl2A rfl rfl ?_
        obtain ⟨v39, hv39, h⟩ := mBN_some h
        refine LX9_at hv39 R sl2A rfl rfl ?_
        obtain ⟨v44, hv44, h⟩ := mBN_some h
        refine LX8_isNoMultiple hv44 R sl1A rfl rfl rfl rfl ?_
        refine mIf h Iff.rfl (fun c4 h => ?_) (fun c4 h => ?_)
        · cases h
          exact k
        · cases h
          exact k
    · cases h
      exact k
  · cases h
    exact k
end
