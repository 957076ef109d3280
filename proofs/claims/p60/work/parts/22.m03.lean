/-! LIFTED BY PROGRAM (lift.py): X5_lockRising, X5_leavingRow, X5_exchange, X5_rowOf, X5_valueOf, X6_loadStates. -/
section
def mX5_lockRising_b0 (F : Nat) (rec : Nat → Int32 → Int32 → mV → Option (Unit × mV)) (l1I : Int32) (l2I : Int32) (V : mV) : Option (Unit × mV) :=
  (if (V.fI 4 5) ≤ l2I then some ((), V) else (if l1I < 0 ∨ 14 ≤ (l1I).toNatClampNeg then none else (if l2I < 0 ∨ 18 ≤ (l2I).toNatClampNeg then none else (if 0 ≤ (lg_cmp (V.rJ (36 + (l1I).toNatClampNeg) (l2I).toNatClampNeg) (0 : Int64)) then (mLt (l2I + (1 : Int32)) fun x6 => (rec 0 (l1I) (x6) V)) else (if l2I < 0 ∨ 18 ≤ (l2I).toNatClampNeg then none else (mLt (mF V 4 3 (((V.fI 4 3) ||| ((1 : Int32) <<< ((V.rI 51 (l2I).toNatClampNeg) &&& 31))))) fun V8 => (mLt (l2I + (1 : Int32)) fun x9 => (rec 0 (l1I) (x9) V8))))))))
def mX5_lockRising_go (F : Nat) : Nat → Nat → Int32 → Int32 → mV → Option (Unit × mV)
  | 0, _, _, _, _ => none
  | k' + 1, lab, l1I, l2I, V => if lab = 0 then mX5_lockRising_b0 F (mX5_lockRising_go F k') l1I l2I V else none
def mX5_lockRising_s (F : Nat) (rec : Nat → Int32 → Int32 → mV → Option (Unit × mV)) (l1I : Int32) (V : mV) : Option (Unit × mV) :=
  (rec 0 (l1I) ((0 : Int32)) V)
def mX5_lockRising (F : Nat) (l1I : Int32) (V : mV) : Option (Unit × mV) := mX5_lockRising_s F (mX5_lockRising_go F F) l1I V
set_option maxHeartbeats 4000000 in
set_option maxRecDepth 100000 in
theorem LX5_lockRising_go {α : Nat → Nat} {F : Nat} {Ln : Nat → Nat} {v : Unit} {V1 : mV} {Φ : (Unit → wPS → Prop)} : ∀ k' : Nat, (∀ (l1I : Int32) (l2I : Int32) (S : wPS) (V : mV) , mRel α S Ln V → mX5_lockRising_go F k' 0 l1I l2I V = some (v, V1) → (∀ S1, mRel α S1 Ln V1 → mFr α S S1 → Φ v S1) → rX5_lockRising_go F k' 0 (α 4) l1I l2I S Φ) := by
  intro k'
  induction k' with
  | zero => exact (fun _ _ _ _ _ h _ => by cases h)
  | succ k' ih =>
    intro l1I l2I S V R h k
    rw [mX5_lockRising_go, if_pos rfl] at h
    rw [rX5_lockRising_go, if_pos rfl]
    unfold mX5_lockRising_b0 at h
    unfold rX5_lockRising_b0
    refine mIf h (by rw [show gInequalities_columns S (α 4) = V.fI 4 5 from (mg_I (i := 4) R (by decide) rfl 5)]) (fun c1 h => ?_) (fun c1 h => ?_)
    · obtain ⟨rfl, rfl⟩ := mRW h
      exact k _ R mFr.rf
    · refine mGd h (by rw [show S.len (wkAd (gInequalities_table S (α 4))) = 14 from (mg_len (i := 35) R (mAr (by decide)) (mg_A (t := 35) R rfl rfl))]) (fun c2 h => ?_)
      refine mGd h (by rw [show S.len (wkAd (S.rA (wkAd (gInequalities_table S (α 4))) (l1I).toNatClampNeg)) = 18 from ((mg_len R (mA14 (mKA35 (Nat.lt_of_not_le (fun z => c2 (Or.inr z))))) (mg_RA R (mRA35 (Nat.lt_of_not_le (fun z => c2 (Or.inr z)))) (mg_A (t := 35) R rfl rfl) rfl)).trans (mLA35 (Nat.lt_of_not_le (fun z => c2 (Or.inr z)))))]) (fun c3 h => ?_)
      refine mIf h (by rw [show S.rJ (wkAd (S.rA (wkAd (gInequalities_table S (α 4))) (l1I).toNatClampNeg)) (l2I).toNatClampNeg = V.rJ (36 + (l1I).toNatClampNeg) (l2I).toNatClampNeg from (mg_rJ (i := (36 + (l1I).toNatClampNeg)) R (mA14 (mKA35 (Nat.lt_of_not_le (fun z => c2 (Or.inr z))))) (mg_RA R (mRA35 (Nat.lt_of_not_le (fun z => c2 (Or.inr z)))) (mg_A (t := 35) R rfl rfl) rfl) rfl)]) (fun c4 h => ?_) (fun c4 h => ?_)
      · refine mLet h rfl (fun x6 ex6 h => ?_)
        exact ih _ _ _ _ R h (fun S1 R1 F1 => k S1 R1 F1)
      · refine mGd h (by rw [show S.len (wkAd (gInequalities_columnLabels S (α 4))) = 18 from (mg_len (i := 51) R (mA13 rfl) (mg_A (t := 51) R rfl rfl))]) (fun c5 h => ?_)
        obtain ⟨V8, eV8, h⟩ := mLt_some h
        refine mU_F eV8 R (by decide) rfl (by rw [show S.rI (wkAd (gInequalities_columnLabels S (α 4))) (l2I).toNatClampNeg = V.rI 51 (l2I).toNatClampNeg from (mg_rI (i := 51) R (mA13 rfl) (mg_A (t := 51) R rfl rfl) rfl), show gInequalities_locked S (α 4) = V.fI 4 3 from (mg_I (i := 4) R (by decide) rfl 3)]) (fun S8 R8 F8 => ?_)
        refine mLet h rfl (fun x9 ex9 h => ?_)
        exact ih _ _ _ _ R8 h (fun S1 R1 F1 => k S1 R1 (F8.tr F1))
set_option maxHeartbeats 4000000 in
set_option maxRecDepth 100000 in
theorem LX5_lockRising {α : Nat → Nat} {F : Nat} {S : wPS} {Ln : Nat → Nat} {V V1 : mV} {v : Unit} {Φ : (Unit → wPS → Prop)} {l0Ax : Nat} {l1Ix l1I : Int32} (h : mX5_lockRising F l1I V = some (v, V1)) (R : mRel α S Ln V) (el0A : l0Ax = α 4) (el1I : l1Ix = l1I) (k : (∀ S1, mRel α S1 Ln V1 → mFr α S S1 → Φ v S1)) : rX5_lockRising F l0Ax l1Ix S Φ := by
  have el0A := el0A.symm
  subst el0A
  have el1I := el1I.symm
  subst el1I
  have ih := LX5_lockRising_go  (α := α) (F := F) (v := v) (Ln := Ln) (Φ := Φ) (V1 := V1) F
  unfold mX5_lockRising mX5_lockRising_s at h
  unfold rX5_lockRising rX5_lockRising_s
  exact ih _ _ _ _ R h (fun S1 R1 F1 => k S1 R1 F1)
def mX5_leavingRow_b0 (F : Nat) (rec : Nat → Int32 → Int32 → Int32 → mV → Option Int32) (l1I : Int32) (l2I : Int32) (l3I : Int32) (V : mV) : Option Int32 :=
  (if (V.fI 4 4) ≤ l3I then some (l2I) else (if l3I < 0 ∨ 14 ≤ (l3I).toNatClampNeg then none else (if l1I < 0 ∨ 18 ≤ (l1I).toNatClampNeg then none else (if (lg_cmp (V.rJ (36 + (l3I).toNatClampNeg) (l1I).toNatClampNeg) (0 : Int64)) ≤ 0 then (mLt (l3I + (1 : Int32)) fun x6 => (rec 0 (l1I) (l2I) (x6) V)) else (mLt (if l2I < (0 : Int32) then (0 : Int32) else l2I) fun x7 => (if l3I < 0 ∨ 14 ≤ (l3I).toNatClampNeg then none else (if (V.fI 4 5) < 0 ∨ 18 ≤ ((V.fI 4 5)).toNatClampNeg then none else (if x7 < 0 ∨ 14 ≤ (x7).toNatClampNeg then none else (if l1I < 0 ∨ 18 ≤ (l1I).toNatClampNeg then none else (mLt ((V.rJ (36 + (l3I).toNatClampNeg) ((V.fI 4 5)).toNatClampNeg) * (V.rJ (36 + (x7).toNatClampNeg) (l1I).toNatClampNeg)) fun x14 => (if x7 < 0 ∨ 14 ≤ (x7).toNatClampNeg then none else (if (V.fI 4 5) < 0 ∨ 18 ≤ ((V.fI 4 5)).toNatClampNeg then none else (if l3I < 0 ∨ 14 ≤ (l3I).toNatClampNeg then none else (if l1I < 0 ∨ 18 ≤ (l1I).toNatClampNeg then none else (mLt ((V.rJ (36 + (x7).toNatClampNeg) ((V.fI 4 5)).toNatClampNeg) * (V.rJ (36 + (l3I).toNatClampNeg) (l1I).toNatClampNeg)) fun x21 => (if l2I < 0 then (mLt (l3I + (1 : Int32)) fun x23 => (rec 0 (l1I) (l3I) (x23) V)) else (if (lg_cmp x14 x21) < 0 then (mLt (l3I + (1 : Int32)) fun x25 => (rec 0 (l1I) (l3I) (x25) V)) else (if (lg_cmp x14 x21) = 0 then (if l3I < 0 ∨ 14 ≤ (l3I).toNatClampNeg then none else (if x7 < 0 ∨ 14 ≤ (x7).toNatClampNeg then none else (if (V.rI 50 (x7).toNatClampNeg) ≤ (V.rI 50 (l3I).toNatClampNeg) then (mLt (l3I + (1 : Int32)) fun x31 => (rec 0 (l1I) (l2I) (x31) V)) else (mLt (l3I + (1 : Int32)) fun x32 => (rec 0 (l1I) (l3I) (x32) V))))) else (mLt (l3I + (1 : Int32)) fun x27 => (rec 0 (l1I) (l2I) (x27) V))))))))))))))))))))
def mX5_leavingRow_go (F : Nat) : Nat → Nat → Int32 → Int32 → Int32 → mV → Option Int32
  | 0, _, _, _, _, _ => none
  | k' + 1, lab, l1I, l2I, l3I, V => if lab = 0 then mX5_leavingRow_b0 F (mX5_leavingRow_go F k') l1I l2I l3I V else none
def mX5_leavingRow_s (F : Nat) (rec : Nat → Int32 → Int32 → Int32 → mV → Option Int32) (l1I : Int32) (V : mV) : Option Int32 :=
  (rec 0 (l1I) ((-1 : Int32)) ((0 : Int32)) V)
def mX5_leavingRow (F : Nat) (l1I : Int32) (V : mV) : Option Int32 := mX5_leavingRow_s F (mX5_leavingRow_go F F) l1I V
set_option maxHeartbeats 4000000 in
set_option maxRecDepth 100000 in
theorem LX5_leavingRow_go {α : Nat → Nat} {F : Nat} {Ln : Nat → Nat} {v : Int32} {Φ : (Int32 → wPS → Prop)} : ∀ k' : Nat, (∀ (l1I : Int32) (l2I : Int32) (l3I : Int32) (S : wPS) (V : mV) , mRel α S Ln V → mX5_leavingRow_go F k' 0 l1I l2I l3I V = some v → (Φ v S) → rX5_leavingRow_go F k' 0 (α 4) l1I l2I l3I S Φ) := by
  intro k'
  induction k' with
  | zero => exact (fun _ _ _ _ _ _ h _ => by cases h)
  | succ k' ih =>
    intro l1I l2I l3I S V R h k
    rw [mX5_leavingRow_go, if_pos rfl] at h
    rw [rX5_leavingRow_go, if_pos rfl]
    unfold mX5_leavingRow_b0 at h
    unfold rX5_leavingRow_b0
    refine mIf h (by rw [show gInequalities_rows S (α 4) = V.fI 4 4 from (mg_I (i := 4) R (by decide) rfl 4)]) (fun c1 h => ?_) (fun c1 h => ?_)
    · cases h
      exact k
    · refine mGd h (by rw [show S.len (wkAd (gInequalities_table S (α 4))) = 14 from (mg_len (i := 35) R (mAr (by decide)) (mg_A (t := 35) R rfl rfl))]) (fun c2 h => ?_)
      refine mGd h (by rw [show S.len (wkAd (S.rA (wkAd (gInequalities_table S (α 4))) (l3I).toNatClampNeg)) = 18 from ((mg_len R (mA14 (mKA35 (Nat.lt_of_not_le (fun z => c2 (Or.inr z))))) (mg_RA R (mRA35 (Nat.lt_of_not_le (fun z => c2 (Or.inr z)))) (mg_A (t := 35) R rfl rfl) rfl)).trans (mLA35 (Nat.lt_of_not_le (fun z => c2 (Or.inr z)))))]) (fun c3 h => ?_)
      refine mIf h (by rw [show S.rJ (wkAd (S.rA (wkAd (gInequalities_table S (α 4))) (l3I).toNatClampNeg)) (l1I).toNatClampNeg = V.rJ (36 + (l3I).toNatClampNeg) (l1I).toNatClampNeg from (mg_rJ (i := (36 + (l3I).toNatClampNeg)) R (mA14 (mKA35 (Nat.lt_of_not_le (fun z => c2 (Or.inr z))))) (mg_RA R (mRA35 (Nat.lt_of_not_le (fun z => c2 (Or.inr z)))) (mg_A (t := 35) R rfl rfl) rfl) rfl)]) (fun c4 h => ?_) (fun c4 h => ?_)
      · refine mLet h rfl (fun x6 ex6 h => ?_)
        exact ih _ _ _ _ _ R h k
      · refine mLet h rfl (fun x7 ex7 h => ?_)
        refine mGd h (by rw [show S.len (wkAd (gInequalities_table S (α 4))) = 14 from (mg_len (i := 35) R (mAr (by decide)) (mg_A (t := 35) R rfl rfl))]) (fun c5 h => ?_)
        refine mGd h (by rw [show S.len (wkAd (S.rA (wkAd (gInequalities_table S (α 4))) (l3I).toNatClampNeg)) = 18 from ((mg_len R (mA14 (mKA35 (Nat.lt_of_not_le (fun z => c5 (Or.inr z))))) (mg_RA R (mRA35 (Nat.lt_of_not_le (fun z => c5 (Or.inr z)))) (mg_A (t := 35) R rfl rfl) rfl)).trans (mLA35 (Nat.lt_of_not_le (fun z => c5 (Or.inr z))))), show gInequalities_columns S (α 4) = V.fI 4 5 from (mg_I (i := 4) R (by decide) rfl 5)]) (fun c6 h => ?_)
        refine mGd h (by rw [show S.len (wkAd (gInequalities_table S (α 4))) = 14 from (mg_len (i := 35) R (mAr (by decide)) (mg_A (t := 35) R rfl rfl))]) (fun c7 h => ?_)
        refine mGd h (by rw [show S.len (wkAd (S.rA (wkAd (gInequalities_table S (α 4))) (x7).toNatClampNeg)) = 18 from ((mg_len R (mA14 (mKA35 (Nat.lt_of_not_le (fun z => c7 (Or.inr z))))) (mg_RA R (mRA35 (Nat.lt_of_not_le (fun z => c7 (Or.inr z)))) (mg_A (t := 35) R rfl rfl) rfl)).trans (mLA35 (Nat.lt_of_not_le (fun z => c7 (Or.inr z)))))]) (fun c8 h => ?_)
        refine mLet h (by rw [show S.rJ (wkAd (S.rA (wkAd (gInequalities_table S (α 4))) (l3I).toNatClampNeg)) ((gInequalities_columns S (α 4))).toNatClampNeg = V.rJ (36 + (l3I).toNatClampNeg) ((V.fI 4 5)).toNatClampNeg from (mg_rJ (i := (36 + (l3I).toNatClampNeg)) R (mA14 (mKA35 (Nat.lt_of_not_le (fun z => c5 (Or.inr z))))) (mg_RA R (mRA35 (Nat.lt_of_not_le (fun z => c5 (Or.inr z)))) (mg_A (t := 35) R rfl rfl) rfl) (by rw [show gInequalities_columns S (α 4) = V.fI 4 5 from (mg_I (i := 4) R (by decide) rfl 5)])), show S.rJ (wkAd (S.rA (wkAd (gInequalities_table S (α 4))) (x7).toNatClampNeg)) (l1I).toNatClampNeg = V.rJ (36 + (x7).toNatClampNeg) (l1I).toNatClampNeg from (mg_rJ (i := (36 + (x7).toNatClampNeg)) R (mA14 (mKA35 (Nat.lt_of_not_le (fun z => c7 (Or.inr z))))) (mg_RA R (mRA35 (Nat.lt_of_not_le (fun z => c7 (Or.inr z)))) (mg_A (t := 35) R rfl rfl) rfl) rfl)]) (fun x14 ex14 h => ?_)
        refine mGd h (by rw [show S.len (wkAd (gInequalities_table S (α 4))) = 14 from (mg_len (i := 35) R (mAr (by decide)) (mg_A (t := 35) R rfl rfl))]) (fun c9 h => ?_)
        refine mGd h (by rw [show S.len (wkAd (S.rA (wkAd (gInequalities_table S (α 4))) (x7).toNatClampNeg)) = 18 from ((mg_len R (mA14 (mKA35 (Nat.lt_of_not_le (fun z => c9 (Or.inr z))))) (mg_RA R (mRA35 (Nat.lt_of_not_le (fun z => c9 (Or.inr z)))) (mg_A (t := 35) R rfl rfl) rfl)).trans (mLA35 (Nat.lt_of_not_le (fun z => c9 (Or.inr z))))), show gInequalities_columns S (α 4) = V.fI 4 5 from (mg_I (i := 4) R (by decide) rfl 5)]) (fun c10 h => ?_)
        refine mGd h (by rw [show S.len (wkAd (gInequalities_table S (α 4))) = 14 from (mg_len (i := 35) R (mAr (by decide)) (mg_A (t := 35) R rfl rfl))]) (fun c11 h => ?_)
        refine mGd h (by rw [show S.len (wkAd (S.rA (wkAd (gInequalities_table S (α 4))) (l3I).toNatClampNeg)) = 18 from ((mg_len R (mA14 (mKA35 (Nat.lt_of_not_le (fun z => c11 (Or.inr z))))) (mg_RA R (mRA35 (Nat.lt_of_not_le (fun z => c11 (Or.inr z)))) (mg_A (t := 35) R rfl rfl) rfl)).trans (mLA35 (Nat.lt_of_not_le (fun z => c11 (Or.inr z)))))]) (fun c12 h => ?_)
        refine mLet h (by rw [show S.rJ (wkAd (S.rA (wkAd (gInequalities_table S (α 4))) (x7).toNatClampNeg)) ((gInequalities_columns S (α 4))).toNatClampNeg = V.rJ (36 + (x7).toNatClampNeg) ((V.fI 4 5)).toNatClampNeg from (mg_rJ (i := (36 + (x7).toNatClampNeg)) R (mA14 (mKA35 (Nat.lt_of_not_le (fun z => c9 (Or.inr z))))) (mg_RA R (mRA35 (Nat.lt_of_not_le (fun z => c9 (Or.inr z)))) (mg_A (t := 35) R rfl rfl) rfl) (by rw [show gInequalities_columns S (α 4) = V.fI 4 5 from (mg_I (i := 4) R (by decide) rfl 5)])), show S.rJ (wkAd (S.rA (wkAd (gInequalities_table S (α 4))) (l3I).toNatClampNeg)) (l1I).toNatClampNeg = V.rJ (36 + (l3I).toNatClampNeg) (l1I).toNatClampNeg from (mg_rJ (i := (36 + (l3I).toNatClampNeg)) R (mA14 (mKA35 (Nat.lt_of_not_le (fun z => c11 (Or.inr z))))) (mg_RA R (mRA35 (Nat.lt_of_not_le (fun z => c11 (Or.inr z)))) (mg_A (t := 35) R rfl rfl) rfl) rfl)]) (fun x21 ex21 h => ?_)
        refine mIf h Iff.rfl (fun c13 h => ?_) (fun c13 h => ?_)
        · refine mLet h rfl (fun x23 ex23 h => ?_)
          exact ih _ _ _ _ _ R h k
        · refine mIf h Iff.rfl (fun c14 h => ?_) (fun c14 h => ?_)
          · refine mLet h rfl (fun x25 ex25 h => ?_)
            exact ih _ _ _ _ _ R h k
          · refine mIf h Iff.rfl (fun c15 h => ?_) (fun c15 h => ?_)
            · refine mGd h (by rw [show S.len (wkAd (gInequalities_rowLabels S (α 4))) = 14 from (mg_len (i := 50) R (mA13 rfl) (mg_A (t := 50) R rfl rfl))]) (fun c16 h => ?_)
              refine mGd h (by rw [show S.len (wkAd (gInequalities_rowLabels S (α 4))) = 14 from (mg_len (i := 50) R (mA13 rfl) (mg_A (t := 50) R rfl rfl))]) (fun c17 h => ?_)
              refine mIf h (by rw [show S.rI (wkAd (gInequalities_rowLabels S (α 4))) (l3I).toNatClampNeg = V.rI 50 (l3I).toNatClampNeg from (mg_rI (i := 50) R (mA13 rfl) (mg_A (t := 50) R rfl rfl) rfl), show S.rI (wkAd (gInequalities_rowLabels S (α 4))) (x7).toNatClampNeg = V.rI 50 (x7).toNatClampNeg from (mg_rI (i := 50) R (mA13 rfl) (mg_A (t := 50) R rfl rfl) rfl)]) (fun c18 h => ?_) (fun c18 h => ?_)
              · refine mLet h rfl (fun x31 ex31 h => ?_)
                exact ih _ _ _ _ _ R h k
              · refine mLet h rfl (fun x32 ex32 h => ?_)
                exact ih _ _ _ _ _ R h k
            · refine mLet h rfl (fun x27 ex27 h => ?_)
              exact ih _ _ _ _ _ R h k
set_option maxHeartbeats 4000000 in
set_option maxRecDepth 100000 in
theorem LX5_leavingRow {α : Nat → Nat} {F : Nat} {S : wPS} {Ln : Nat → Nat} {V : mV} {v : Int32} {Φ : (Int32 → wPS → Prop)} {l0Ax : Nat} {l1Ix l1I : Int32} (h : mX5_leavingRow F l1I V = some v) (R : mRel α S Ln V) (el0A : l0Ax = α 4) (el1I : l1Ix = l1I) (k : (Φ v S)) : rX5_leavingRow F l0Ax l1Ix S Φ := by
  have el0A := el0A.symm
  subst el0A
  have el1I := el1I.symm
  subst el1I
  have ih := LX5_leavingRow_go  (α := α) (F := F) (v := v) (Ln := Ln) (Φ := Φ) F
  unfold mX5_leavingRow mX5_leavingRow_s at h
  unfold rX5_leavingRow rX5_leavingRow_s
  exact ih _ _ _ _ _ R h k
def mX5_exchange_b0 (F : Nat) (rec : Nat → Int32 → Int32 → Int64 → Int32 → Int64 → Int32 → mV → Option (Unit × mV)) (l1I : Int32) (l2I : Int32) (l3J : Int64) (l5I : Int32) (V : mV) : Option (Unit × mV) :=
  (if (V.fI 4 4) < l5I then (if l1I < 0 ∨ 14 ≤ (l1I).toNatClampNeg then none else (if l2I < 0 ∨ 18 ≤ (l2I).toNatClampNeg then none else (mLt (mJ V (36 + (l1I).toNatClampNeg) (l2I) ((V.fJ 4 6))) fun V5 => (mLt (mG V5 4 6 (l3J)) fun V6 => (if l1I < 0 ∨ 14 ≤ (l1I).toNatClampNeg then none else (mLt (V6.rI 50 (l1I).toNatClampNeg) fun x8 => (if l2I < 0 ∨ 18 ≤ (l2I).toNatClampNeg then none else (if l1I < 0 ∨ 14 ≤ (l1I).toNatClampNeg then none else (mLt (mI V6 50 (l1I) ((V6.rI 51 (l2I).toNatClampNeg))) fun V11 => (if l2I < 0 ∨ 18 ≤ (l2I).toNatClampNeg then none else (mLt (mI V11 51 (l2I) (x8)) fun V13 => (if x8 < (V13.fI 4 5) then some ((), V13) else (mLt (mF V13 4 3 (((V13.fI 4 3) ||| ((1 : Int32) <<< (x8 &&& 31))))) fun V15 => some ((), V15)))))))))))))) else (if l5I < 0 ∨ 14 ≤ (l5I).toNatClampNeg then none else (if l2I < 0 ∨ 18 ≤ (l2I).toNatClampNeg then none else (mLt (V.rJ (36 + (l5I).toNatClampNeg) (l2I).toNatClampNeg) fun x19 => (if l5I = l1I then (mLt (l5I + (1 : Int32)) fun x21 => (rec 0 (l1I) (l2I) (l3J) (x21) 0 0 V)) else (rec 1 (l1I) (l2I) (l3J) (l5I) (x19) ((0 : Int32)) V))))))
def mX5_exchange_b1 (F : Nat) (rec : Nat → Int32 → Int32 → Int64 → Int32 → Int64 → Int32 → mV → Option (Unit × mV)) (l1I : Int32) (l2I : Int32) (l3J : Int64) (l5I : Int32) (l6J : Int64) (l8I : Int32) (V : mV) : Option (Unit × mV) :=
  (if (V.fI 4 5) < l8I then (if l5I < 0 ∨ 14 ≤ (l5I).toNatClampNeg then none else (if l2I < 0 ∨ 18 ≤ (l2I).toNatClampNeg then none else (mLt (mJ V (36 + (l5I).toNatClampNeg) (l2I) ((-l6J))) fun V26 => (mLt (l5I + (1 : Int32)) fun x27 => (rec 0 (l1I) (l2I) (l3J) (x27) 0 0 V26))))) else (if l5I < 0 ∨ 14 ≤ (l5I).toNatClampNeg then none else (if l5I < 0 ∨ 14 ≤ (l5I).toNatClampNeg then none else (if l8I < 0 ∨ 18 ≤ (l8I).toNatClampNeg then none else (if l1I < 0 ∨ 14 ≤ (l1I).toNatClampNeg then none else (if l8I < 0 ∨ 18 ≤ (l8I).toNatClampNeg then none else (if (V.fJ 4 6) = 0 then none else (if l8I < 0 ∨ 18 ≤ (l8I).toNatClampNeg then none else (mLt (mJ V (36 + (l5I).toNatClampNeg) (l8I) ((((l3J * (V.rJ (36 + (l5I).toNatClampNeg) (l8I).toNatClampNeg)) - (l6J * (V.rJ (36 + (l1I).toNatClampNeg) (l8I).toNatClampNeg))) / (V.fJ 4 6)))) fun V38 => (mLt (l8I + (1 : Int32)) fun x39 => (rec 1 (l1I) (l2I) (l3J) (l5I) (l6J) (x39) V38)))))))))))
def mX5_exchange_go (F : Nat) : Nat → Nat → Int32 → Int32 → Int64 → Int32 → Int64 → Int32 → mV → Option (Unit × mV)
  | 0, _, _, _, _, _, _, _, _ => none
  | k' + 1, lab, l1I, l2I, l3J, l5I, l6J, l8I, V => if lab = 0 then mX5_exchange_b0 F (mX5_exchange_go F k') l1I l2I l3J l5I V else if lab = 1 then mX5_exchange_b1 F (mX5_exchange_go F k') l1I l2I l3J l5I l6J l8I V else none
def mX5_exchange_s (F : Nat) (rec : Nat → Int32 → Int32 → Int64 → Int32 → Int64 → Int32 → mV → Option (Unit × mV)) (l1I : Int32) (l2I : Int32) (V : mV) : Option (Unit × mV) :=
  (if l1I < 0 ∨ 14 ≤ (l1I).toNatClampNeg then none else (if l2I < 0 ∨ 18 ≤ (l2I).toNatClampNeg then none else (mLt (V.rJ (36 + (l1I).toNatClampNeg) (l2I).toNatClampNeg) fun x43 => (if (lg_cmp x43 (1 : Int64)) < 0 then some ((), V) else (if 0 ≤ (lg_cmp (V.fJ 4 6) (1 : Int64)) then (rec 0 (l1I) (l2I) (x43) ((0 : Int32)) 0 0 V) else some ((), V))))))
def mX5_exchange (F : Nat) (l1I : Int32) (l2I : Int32) (V : mV) : Option (Unit × mV) := mX5_exchange_s F (mX5_exchange_go F F) l1I l2I V
set_option maxHeartbeats 4000000 in
set_option maxRecDepth 100000 in
theorem LX5_exchange_go {α : Nat → Nat} {F : Nat} {Ln : Nat → Nat} {v : Unit} {V1 : mV} {Φ : (Unit → wPS → Prop)} : ∀ k' : Nat, (∀ (l1I : Int32) (l2I : Int32) (l3J : Int64) (l5I : Int32) (S : wPS) (V : mV) , mRel α S Ln V → mX5_exchange_go F k' 0 l1I l2I l3J l5I 0 0 V = some (v, V1) → (∀ S1, mRel α S1 Ln V1 → mFr α S S1 → Φ v S1) → rX5_exchange_go F k' 0 (α 4) l1I l2I l3J l5I 0 0 S Φ) ∧ (∀ (l1I : Int32) (l2I : Int32) (l3J : Int64) (l5I : Int32) (l6J : Int64) (l8I : Int32) (S : wPS) (V : mV) , mRel α S Ln V → mX5_exchange_go F k' 1 l1I l2I l3J l5I l6J l8I V = some (v, V1) → (∀ S1, mRel α S1 Ln V1 → mFr α S S1 → Φ v S1) → rX5_exchange_go F k' 1 (α 4) l1I l2I l3J l5I l6J l8I S Φ) := by
  intro k'
  induction k' with
  | zero => exact ⟨(fun _ _ _ _ _ _ _ h _ => by cases h), (fun _ _ _ _ _ _ _ _ _ h _ => by cases h)⟩
  | succ k' ih =>
    refine ⟨?_, ?_⟩
    · intro l1I l2I l3J l5I S V R h k
      rw [mX5_exchange_go, if_pos rfl] at h
      rw [rX5_exchange_go, if_pos rfl]
      unfold mX5_exchange_b0 at h
      unfold rX5_exchange_b0
      refine mIf h (by rw [show gInequalities_rows S (α 4) = V.fI 4 4 from (mg_I (i := 4) R (by decide) rfl 4)]) (fun c1 h => ?_) (fun c1 h => ?_)
      · refine mGd h (by rw [show S.len (wkAd (gInequalities_table S (α 4))) = 14 from (mg_len (i := 35) R (mAr (by decide)) (mg_A (t := 35) R rfl rfl))]) (fun c2 h => ?_)
        refine mGd h (by rw [show S.len (wkAd (S.rA (wkAd (gInequalities_table S (α 4))) (l1I).toNatClampNeg)) = 18 from ((mg_len R (mA14 (mKA35 (Nat.lt_of_not_le (fun z => c2 (Or.inr z))))) (mg_RA R (mRA35 (Nat.lt_of_not_le (fun z => c2 (Or.inr z)))) (mg_A (t := 35) R rfl rfl) rfl)).trans (mLA35 (Nat.lt_of_not_le (fun z => c2 (Or.inr z)))))]) (fun c3 h => ?_)
        obtain ⟨V5, eV5, h⟩ := mLt_some h
        refine mU_J eV5 R (mA14 (mKA35 (Nat.lt_of_not_le (fun z => c2 (Or.inr z))))) (mg_RA R (mRA35 (Nat.lt_of_not_le (fun z => c2 (Or.inr z)))) (mg_A (t := 35) R rfl rfl) rfl) rfl (by rw [show gInequalities_lower S (α 4) = V.fJ 4 6 from (mg_J (i := 4) R (by decide) rfl 6)]) (fun S5 R5 F5 => ?_)
        obtain ⟨V6, eV6, h⟩ := mLt_some h
        refine mU_G eV6 R5 (by decide) rfl rfl (fun S6 R6 F6 => ?_)
        refine mGd h (by rw [show S6.len (wkAd (gInequalities_rowLabels S6 (α 4))) = 14 from (mg_len (i := 50) R6 (mA13 rfl) (mg_A (t := 50) R6 rfl rfl))]) (fun c4 h => ?_)
        refine mLet h (by rw [show S6.rI (wkAd (gInequalities_rowLabels S6 (α 4))) (l1I).toNatClampNeg = V6.rI 50 (l1I).toNatClampNeg from (mg_rI (i := 50) R6 (mA13 rfl) (mg_A (t := 50) R6 rfl rfl) rfl)]) (fun x8 ex8 h => ?_)
        refine mGd h (by rw [show S6.len (wkAd (gInequalities_columnLabels S6 (α 4))) = 18 from (mg_len (i := 51) R6 (mA13 rfl) (mg_A (t := 51) R6 rfl rfl))]) (fun c5 h => ?_)
        refine mGd h (by rw [show S6.len (wkAd (gInequalities_rowLabels S6 (α 4))) = 14 from (mg_len (i := 50) R6 (mA13 rfl) (mg_A (t := 50) R6 rfl rfl))]) (fun c6 h => ?_)
        obtain ⟨V11, eV11, h⟩ := mLt_some h
        refine mU_I eV11 R6 (mA13 rfl) (mg_A (t := 50) R6 rfl rfl) rfl (by rw [show S6.rI (wkAd (gInequalities_columnLabels S6 (α 4))) (l2I).toNatClampNeg = V6.rI 51 (l2I).toNatClampNeg from (mg_rI (i := 51) R6 (mA13 rfl) (mg_A (t := 51) R6 rfl rfl) rfl)]) (fun S11 R11 F11 => ?_)
        refine mGd h (by rw [show S11.len (wkAd (gInequalities_columnLabels S11 (α 4))) = 18 from (mg_len (i := 51) R11 (mA13 rfl) (mg_A (t := 51) R11 rfl rfl))]) (fun c7 h => ?_)
        obtain ⟨V13, eV13, h⟩ := mLt_some h
        refine mU_I eV13 R11 (mA13 rfl) (mg_A (t := 51) R11 rfl rfl) rfl rfl (fun S13 R13 F13 => ?_)
        refine mIf h (by rw [show gInequalities_columns S13 (α 4) = V13.fI 4 5 from (mg_I (i := 4) R13 (by decide) rfl 5)]) (fun c8 h => ?_) (fun c8 h => ?_)
        · obtain ⟨rfl, rfl⟩ := mRW h
          exact k _ R13 (F5.tr (F6.tr (F11.tr F13)))
        · obtain ⟨V15, eV15, h⟩ := mLt_some h
          refine mU_F eV15 R13 (by decide) rfl (by rw [show gInequalities_locked S13 (α 4) = V13.fI 4 3 from (mg_I (i := 4) R13 (by decide) rfl 3)]) (fun S15 R15 F15 => ?_)
          obtain ⟨rfl, rfl⟩ := mRW h
          exact k _ R15 (F5.tr (F6.tr (F11.tr (F13.tr F15))))
      · refine mGd h (by rw [show S.len (wkAd (gInequalities_table S (α 4))) = 14 from (mg_len (i := 35) R (mAr (by decide)) (mg_A (t := 35) R rfl rfl))]) (fun c9 h => ?_)
        refine mGd h (by rw [show S.len (wkAd (S.rA (wkAd (gInequalities_table S (α 4))) (l5I).toNatClampNeg)) = 18 from ((mg_len R (mA14 (mKA35 (Nat.lt_of_not_le (fun z => c9 (Or.inr z))))) (mg_RA R (mRA35 (Nat.lt_of_not_le (fun z => c9 (Or.inr z)))) (mg_A (t := 35) R rfl rfl) rfl)).trans (mLA35 (Nat.lt_of_not_le (fun z => c9 (Or.inr z)))))]) (fun c10 h => ?_)
        refine mLet h (by rw [show S.rJ (wkAd (S.rA (wkAd (gInequalities_table S (α 4))) (l5I).toNatClampNeg)) (l2I).toNatClampNeg = V.rJ (36 + (l5I).toNatClampNeg) (l2I).toNatClampNeg from (mg_rJ (i := (36 + (l5I).toNatClampNeg)) R (mA14 (mKA35 (Nat.lt_of_not_le (fun z => c9 (Or.inr z))))) (mg_RA R (mRA35 (Nat.lt_of_not_le (fun z => c9 (Or.inr z)))) (mg_A (t := 35) R rfl rfl) rfl) rfl)]) (fun x19 ex19 h => ?_)
        refine mIf h Iff.rfl (fun c11 h => ?_) (fun c11 h => ?_)
        · refine mLet h rfl (fun x21 ex21 h => ?_)
          exact ih.1 _ _ _ _ _ _ R h (fun S1 R1 F1 => k S1 R1 F1)
        · exact ih.2 _ _ _ _ _ _ _ _ R h (fun S1 R1 F1 => k S1 R1 F1)
    · intro l1I l2I l3J l5I l6J l8I S V R h k
      rw [mX5_exchange_go, if_neg (by decide), if_pos rfl] at h
      rw [rX5_exchange_go, if_neg (by decide), if_pos rfl]
      unfold mX5_exchange_b1 at h
      unfold rX5_exchange_b1
      refine mIf h (by rw [show gInequalities_columns S (α 4) = V.fI 4 5 from (mg_I (i := 4) R (by decide) rfl 5)]) (fun c12 h => ?_) (fun c12 h => ?_)
      · refine mGd h (by rw [show S.len (wkAd (gInequalities_table S (α 4))) = 14 from (mg_len (i := 35) R (mAr (by decide)) (mg_A (t := 35) R rfl rfl))]) (fun c13 h => ?_)
        refine mGd h (by rw [show S.len (wkAd (S.rA (wkAd (gInequalities_table S (α 4))) (l5I).toNatClampNeg)) = 18 from ((mg_len R (mA14 (mKA35 (Nat.lt_of_not_le (fun z => c13 (Or.inr z))))) (mg_RA R (mRA35 (Nat.lt_of_not_le (fun z => c13 (Or.inr z)))) (mg_A (t := 35) R rfl rfl) rfl)).trans (mLA35 (Nat.lt_of_not_le (fun z => c13 (Or.inr z)))))]) (fun c14 h => ?_)
        obtain ⟨V26, eV26, h⟩ := mLt_some h
        refine mU_J eV26 R (mA14 (mKA35 (Nat.lt_of_not_le (fun z => c13 (Or.inr z))))) (mg_RA R (mRA35 (Nat.lt_of_not_le (fun z => c13 (Or.inr z)))) (mg_A (t := 35) R rfl rfl) rfl) rfl rfl (fun S26 R26 F26 => ?_)
        refine mLet h rfl (fun x27 ex27 h => ?_)
        exact ih.1 _ _ _ _ _ _ R26 h (fun S1 R1 F1 => k S1 R1 (F26.tr F1))
      · refine mGd h (by rw [show S.len (wkAd (gInequalities_table S (α 4))) = 14 from (mg_len (i := 35) R (mAr (by decide)) (mg_A (t := 35) R rfl rfl))]) (fun c15 h => ?_)
        refine mGd h (by rw [show S.len (wkAd (gInequalities_table S (α 4))) = 14 from (mg_len (i := 35) R (mAr (by decide)) (mg_A (t := 35) R rfl rfl))]) (fun c16 h => ?_)
        refine mGd h (by rw [show S.len (wkAd (S.rA (wkAd (gInequalities_table S (α 4))) (l5I).toNatClampNeg)) = 18 from ((mg_len R (mA14 (mKA35 (Nat.lt_of_not_le (fun z => c16 (Or.inr z))))) (mg_RA R (mRA35 (Nat.lt_of_not_le (fun z => c16 (Or.inr z)))) (mg_A (t := 35) R rfl rfl) rfl)).trans (mLA35 (Nat.lt_of_not_le (fun z => c16 (Or.inr z)))))]) (fun c17 h => ?_)
        refine mGd h (by rw [show S.len (wkAd (gInequalities_table S (α 4))) = 14 from (mg_len (i := 35) R (mAr (by decide)) (mg_A (t := 35) R rfl rfl))]) (fun c18 h => ?_)
        refine mGd h (by rw [show S.len (wkAd (S.rA (wkAd (gInequalities_table S (α 4))) (l1I).toNatClampNeg)) = 18 from ((mg_len R (mA14 (mKA35 (Nat.lt_of_not_le (fun z => c18 (Or.inr z))))) (mg_RA R (mRA35 (Nat.lt_of_not_le (fun z => c18 (Or.inr z)))) (mg_A (t := 35) R rfl rfl) rfl)).trans (mLA35 (Nat.lt_of_not_le (fun z => c18 (Or.inr z)))))]) (fun c19 h => ?_)
        refine mGd h (by rw [show gInequalities_lower S (α 4) = V.fJ 4 6 from (mg_J (i := 4) R (by decide) rfl 6)]) (fun c20 h => ?_)
        refine mGd h (by rw [show S.len (wkAd (S.rA (wkAd (gInequalities_table S (α 4))) (l5I).toNatClampNeg)) = 18 from ((mg_len R (mA14 (mKA35 (Nat.lt_of_not_le (fun z => c16 (Or.inr z))))) (mg_RA R (mRA35 (Nat.lt_of_not_le (fun z => c16 (Or.inr z)))) (mg_A (t := 35) R rfl rfl) rfl)).trans (mLA35 (Nat.lt_of_not_le (fun z => c16 (Or.inr z)))))]) (fun c21 h => ?_)
        obtain ⟨V38, eV38, h⟩ := mLt_some h
        refine mU_J eV38 R (mA14 (mKA35 (Nat.lt_of_not_le (fun z => c16 (Or.inr z))))) (mg_RA R (mRA35 (Nat.lt_of_not_le (fun z => c16 (Or.inr z)))) (mg_A (t := 35) R rfl rfl) rfl) rfl (by rw [show S.rJ (wkAd (S.rA (wkAd (gInequalities_table S (α 4))) (l5I).toNatClampNeg)) (l8I).toNatClampNeg = V.rJ (36 + (l5I).toNatClampNeg) (l8I).toNatClampNeg from (mg_rJ (i := (36 + (l5I).toNatClampNeg)) R (mA14 (mKA35 (Nat.lt_of_not_le (fun z => c16 (Or.inr z))))) (mg_RA R (mRA35 (Nat.lt_of_not_le (fun z => c16 (Or.inr z)))) (mg_A (t := 35) R rfl rfl) rfl) rfl), show S.rJ (wkAd (S.rA (wkAd (gInequalities_table S (α 4))) (l1I).toNatClampNeg)) (l8I).toNatClampNeg = V.rJ (36 + (l1I).toNatClampNeg) (l8I).toNatClampNeg from (mg_rJ (i := (36 + (l1I).toNatClampNeg)) R (mA14 (mKA35 (Nat.lt_of_not_le (fun z => c18 (Or.inr z))))) (mg_RA R (mRA35 (Nat.lt_of_not_le (fun z => c18 (Or.inr z)))) (mg_A (t := 35) R rfl rfl) rfl) rfl), show gInequalities_lower S (α 4) = V.fJ 4 6 from (mg_J (i := 4) R (by decide) rfl 6)]) (fun S38 R38 F38 => ?_)
        refine mLet h rfl (fun x39 ex39 h => ?_)
        exact ih.2 _ _ _ _ _ _ _ _ R38 h (fun S1 R1 F1 => k S1 R1 (F38.tr F1))
set_option maxHeartbeats 4000000 in
set_option maxRecDepth 100000 in
theorem LX5_exchange {α : Nat → Nat} {F : Nat} {S : wPS} {Ln : Nat → Nat} {V V1 : mV} {v : Unit} {Φ : (Unit → wPS → Prop)} {l0Ax : Nat} {l1Ix l1I : Int32} {l2Ix l2I : Int32} (h : mX5_exchange F l1I l2I V = some (v, V1)) (R : mRel α S Ln V) (el0A : l0Ax = α 4) (el1I : l1Ix = l1I) (el2I : l2Ix = l2I) (k : (∀ S1, mRel α S1 Ln V1 → mFr α S S1 → Φ v S1)) : rX5_exchange F l0Ax l1Ix l2Ix S Φ := by
  have el0A := el0A.symm
  subst el0A
  have el1I := el1I.symm
  subst el1I
  have el2I := el2I.symm
  subst el2I
  have ih := LX5_exchange_go  (α := α) (F := F) (v := v) (Ln := Ln) (Φ := Φ) (V1 := V1) F
  unfold mX5_exchange mX5_exchange_s at h
  unfold rX5_exchange rX5_exchange_s
  refine mGd h (by rw [show S.len (wkAd (gInequalities_table S (α 4))) = 14 from (mg_len (i := 35) R (mAr (by decide)) (mg_A (t := 35) R rfl rfl))]) (fun c22 h => ?_)
  refine mGd h (by rw [show S.len (wkAd (S.rA (wkAd (gInequalities_table S (α 4))) (l1I).toNatClampNeg)) = 18 from ((mg_len R (mA14 (mKA35 (Nat.lt_of_not_le (fun z => c22 (Or.inr z))))) (mg_RA R (mRA35 (Nat.lt_of_not_le (fun z => c22 (Or.inr z)))) (mg_A (t := 35) R rfl rfl) rfl)).trans (mLA35 (Nat.lt_of_not_le (fun z => c22 (Or.inr z)))))]) (fun c23 h => ?_)
  refine mLet h (by rw [show S.rJ (wkAd (S.rA (wkAd (gInequalities_table S (α 4))) (l1I).toNatClampNeg)) (l2I).toNatClampNeg = V.rJ (36 + (l1I).toNatClampNeg) (l2I).toNatClampNeg from (mg_rJ (i := (36 + (l1I).toNatClampNeg)) R (mA14 (mKA35 (Nat.lt_of_not_le (fun z => c22 (Or.inr z))))) (mg_RA R (mRA35 (Nat.lt_of_not_le (fun z => c22 (Or.inr z)))) (mg_A (t := 35) R rfl rfl) rfl) rfl)]) (fun x43 ex43 h => ?_)
  refine mIf h Iff.rfl (fun c24 h => ?_) (fun c24 h => ?_)
  · obtain ⟨rfl, rfl⟩ := mRW h
    exact k _ R mFr.rf
  · refine mIf h (by rw [show gInequalities_lower S (α 4) = V.fJ 4 6 from (mg_J (i := 4) R (by decide) rfl 6)]) (fun c25 h => ?_) (fun c25 h => ?_)
    · exact ih.1 _ _ _ _ _ _ R h (fun S1 R1 F1 => k S1 R1 F1)
    · obtain ⟨rfl, rfl⟩ := mRW h
      exact k _ R mFr.rf
def mX5_rowOf_b0 (F : Nat) (rec : Nat → Int32 → Int32 → mV → Option Int32) (l1I : Int32) (l2I : Int32) (V : mV) : Option Int32 :=
  (if (V.fI 4 4) ≤ l2I then some ((-1 : Int32)) else (if l2I < 0 ∨ 14 ≤ (l2I).toNatClampNeg then none else (if (V.rI 50 (l2I).toNatClampNeg) = l1I then some (l2I) else (mLt (l2I + (1 : Int32)) fun x4 => (rec 0 (l1I) (x4) V)))))
def mX5_rowOf_go (F : Nat) : Nat → Nat → Int32 → Int32 → mV → Option Int32
  | 0, _, _, _, _ => none
  | k' + 1, lab, l1I, l2I, V => if lab = 0 then mX5_rowOf_b0 F (mX5_rowOf_go F k') l1I l2I V else none
def mX5_rowOf_s (F : Nat) (rec : Nat → Int32 → Int32 → mV → Option Int32) (l1I : Int32) (V : mV) : Option Int32 :=
  (rec 0 (l1I) ((0 : Int32)) V)
def mX5_rowOf (F : Nat) (l1I : Int32) (V : mV) : Option Int32 := mX5_rowOf_s F (mX5_rowOf_go F F) l1I V
set_option maxHeartbeats 4000000 in
set_option maxRecDepth 100000 in
theorem LX5_rowOf_go {α : Nat → Nat} {F : Nat} {Ln : Nat → Nat} {v : Int32} {Φ : (Int32 → wPS → Prop)} : ∀ k' : Nat, (∀ (l1I : Int32) (l2I : Int32) (S : wPS) (V : mV) , mRel α S Ln V → mX5_rowOf_go F k' 0 l1I l2I V = some v → (Φ v S) → rX5_rowOf_go F k' 0 (α 4) l1I l2I S Φ) := by
  intro k'
  induction k' with
  | zero => exact (fun _ _ _ _ _ h _ => by cases h)
  | succ k' ih =>
    intro l1I l2I S V R h k
    rw [mX5_rowOf_go, if_pos rfl] at h
    rw [rX5_rowOf_go, if_pos rfl]
    unfold mX5_rowOf_b0 at h
    unfold rX5_rowOf_b0
    refine mIf h (by rw [show gInequalities_rows S (α 4) = V.fI 4 4 from (mg_I (i := 4) R (by decide) rfl 4)]) (fun c1 h => ?_) (fun c1 h => ?_)
    · cases h
      exact k
    · refine mGd h (by rw [show S.len (wkAd (gInequalities_rowLabels S (α 4))) = 14 from (mg_len (i := 50) R (mA13 rfl) (mg_A (t := 50) R rfl rfl))]) (fun c2 h => ?_)
      refine mIf h (by rw [show S.rI (wkAd (gInequalities_rowLabels S (α 4))) (l2I).toNatClampNeg = V.rI 50 (l2I).toNatClampNeg from (mg_rI (i := 50) R (mA13 rfl) (mg_A (t := 50) R rfl rfl) rfl)]) (fun c3 h => ?_) (fun c3 h => ?_)
      · cases h
        exact k
      · refine mLet h rfl (fun x4 ex4 h => ?_)
        exact ih _ _ _ _ R h k
set_option maxHeartbeats 4000000 in
set_option maxRecDepth 100000 in
theorem LX5_rowOf {α : Nat → Nat} {F : Nat} {S : wPS} {Ln : Nat → Nat} {V : mV} {v : Int32} {Φ : (Int32 → wPS → Prop)} {l0Ax : Nat} {l1Ix l1I : Int32} (h : mX5_rowOf F l1I V = some v) (R : mRel α S Ln V) (el0A : l0Ax = α 4) (el1I : l1Ix = l1I) (k : (Φ v S)) : rX5_rowOf F l0Ax l1Ix S Φ := by
  have el0A := el0A.symm
  subst el0A
  have el1I := el1I.symm
  subst el1I
  have ih := LX5_rowOf_go  (α := α) (F := F) (v := v) (Ln := Ln) (Φ := Φ) F
  unfold mX5_rowOf mX5_rowOf_s at h
  unfold rX5_rowOf rX5_rowOf_s
  exact ih _ _ _ _ R h k
def mX5_valueOf (F : Nat) (l1I : Int32) (V : mV) : Option Int64 :=
  (mBN (mX5_rowOf F (l1I) V) fun v1 => (if 0 ≤ v1 then (if v1 < 0 ∨ 14 ≤ (v1).toNatClampNeg then none else (if (V.fI 4 5) < 0 ∨ 18 ≤ ((V.fI 4 5)).toNatClampNeg then none else some ((V.rJ (36 + (v1).toNatClampNeg) ((V.fI 4 5)).toNatClampNeg)))) else some ((0 : Int64))))
set_option maxHeartbeats 4000000 in
set_option maxRecDepth 100000 in
theorem LX5_valueOf {α : Nat → Nat} {F : Nat} {S : wPS} {Ln : Nat → Nat} {V : mV} {v : Int64} {Φ : (Int64 → wPS → Prop)} {l0Ax : Nat} {l1Ix l1I : Int32} (h : mX5_valueOf F l1I V = some v) (R : mRel α S Ln V) (el0A : l0Ax = α 4) (el1I : l1Ix = l1I) (k : (Φ v S)) : rX5_valueOf F l0Ax l1Ix S Φ := by
  have el0A := el0A.symm
  subst el0A
  have el1I := el1I.symm
  subst el1I
  unfold mX5_valueOf at h
  unfold rX5_valueOf
  obtain ⟨v1, hv1, h⟩ := mBN_some h
  refine LX5_rowOf hv1 R rfl rfl ?_
  refine mIf h Iff.rfl (fun c1 h => ?_) (fun c1 h => ?_)
  · refine mGd h (by rw [show S.len (wkAd (gInequalities_table S (α 4))) = 14 from (mg_len (i := 35) R (mAr (by decide)) (mg_A (t := 35) R rfl rfl))]) (fun c2 h => ?_)
    refine mGd h (by rw [show S.len (wkAd (S.rA (wkAd (gInequalities_table S (α 4))) (v1).toNatClampNeg)) = 18 from ((mg_len R (mA14 (mKA35 (Nat.lt_of_not_le (fun z => c2 (Or.inr z))))) (mg_RA R (mRA35 (Nat.lt_of_not_le (fun z => c2 (Or.inr z)))) (mg_A (t := 35) R rfl rfl) rfl)).trans (mLA35 (Nat.lt_of_not_le (fun z => c2 (Or.inr z))))), show gInequalities_columns S (α 4) = V.fI 4 5 from (mg_I (i := 4) R (by decide) rfl 5)]) (fun c3 h => ?_)
    cases h
    rw [show S.rJ (wkAd (S.rA (wkAd (gInequalities_table S (α 4))) (v1).toNatClampNeg)) ((gInequalities_columns S (α 4))).toNatClampNeg = V.rJ (36 + (v1).toNatClampNeg) ((V.fI 4 5)).toNatClampNeg from (mg_rJ (i := (36 + (v1).toNatClampNeg)) R (mA14 (mKA35 (Nat.lt_of_not_le (fun z => c2 (Or.inr z))))) (mg_RA R (mRA35 (Nat.lt_of_not_le (fun z => c2 (Or.inr z)))) (mg_A (t := 35) R rfl rfl) rfl) (by rw [show gInequalities_columns S (α 4) = V.fI 4 5 from (mg_I (i := 4) R (by decide) rfl 5)]))]
    exact k
  · cases h
    exact k
def mX6_loadStates_b0 (F : Nat) (rec : Nat → Nat → Int32 → Int32 → Nat → Int32 → Int32 → mV → Option (Unit × mV)) (l1A : Nat) (l2I : Int32) (V : mV) : Option (Unit × mV) :=
  (if (V.fI 8 7) ≤ l2I then some ((), V) else (if (V.fI l1A 6) ≤ l2I then (rec 1 l1A (l2I) ((0 : Int32)) 84 (l2I) (l2I) V) else (mBN (mX3_at F l1A (l2I) ((0 : Int32)) V) fun v3 => (rec 1 l1A (l2I) ((1 : Int32)) 84 (l2I) (v3) V))))
def mX6_loadStates_b1 (F : Nat) (rec : Nat → Nat → Int32 → Int32 → Nat → Int32 → Int32 → mV → Option (Unit × mV)) (l1A : Nat) (l2I : Int32) (l3I : Int32) (s0A : Nat) (s1I : Int32) (s2I : Int32) (V : mV) : Option (Unit × mV) :=
  (if s1I < 0 ∨ mLen s0A ≤ (s1I).toNatClampNeg then none else (mLt (mI V s0A (s1I) (s2I)) fun V9 => (if l3I = 0 then (if l2I < 0 ∨ 8 ≤ (l2I).toNatClampNeg then none else (mLt (mI V9 85 (l2I) (l2I)) fun V12 => (if l3I = 0 then (if l2I < 0 ∨ 8 ≤ (l2I).toNatClampNeg then none else (mLt (mI V12 86 (l2I) ((0 : Int32))) fun V15 => (mLt (l2I + (1 : Int32)) fun x16 => (rec 0 l1A (x16) 0 0 0 0 V15)))) else (mBN (mX3_at F l1A (l2I) ((2 : Int32)) V12) fun v17 => (if l2I < 0 ∨ 8 ≤ (l2I).toNatClampNeg then none else (mLt (mI V12 86 (l2I) (v17)) fun V23 => (mLt (l2I + (1 : Int32)) fun x24 => (rec 0 l1A (x24) 0 0 0 0 V23)))))))) else (mBN (mX3_at F l1A (l2I) ((1 : Int32)) V9) fun v25 => (if l2I < 0 ∨ 8 ≤ (l2I).toNatClampNeg then none else (mLt (mI V9 85 (l2I) (v25)) fun V31 => (if l3I = 0 then (if l2I < 0 ∨ 8 ≤ (l2I).toNatClampNeg then none else (mLt (mI V31 86 (l2I) ((0 : Int32))) fun V34 => (mLt (l2I + (1 : Int32)) fun x35 => (rec 0 l1A (x35) 0 0 0 0 V34)))) else (mBN (mX3_at F l1A (l2I) ((2 : Int32)) V31) fun v36 => (if l2I < 0 ∨ 8 ≤ (l2I).toNatClampNeg then none else (mLt (mI V31 86 (l2I) (v36)) fun V42 => (mLt (l2I + (1 : Int32)) fun x43 => (rec 0 l1A (x43) 0 0 0 0 V42))))))))))))
def mX6_loadStates_go (F : Nat) : Nat → Nat → Nat → Int32 → Int32 → Nat → Int32 → Int32 → mV → Option (Unit × mV)
  | 0, _, _, _, _, _, _, _, _ => none
  | k' + 1, lab, l1A, l2I, l3I, s0A, s1I, s2I, V => if lab = 0 then mX6_loadStates_b0 F (mX6_loadStates_go F k') l1A l2I V else if lab = 1 then mX6_loadStates_b1 F (mX6_loadStates_go F k') l1A l2I l3I s0A s1I s2I V else none
def mX6_loadStates_s (F : Nat) (rec : Nat → Nat → Int32 → Int32 → Nat → Int32 → Int32 → mV → Option (Unit × mV)) (l1A : Nat) (V : mV) : Option (Unit × mV) :=
  (mLt (mF V 8 7 ((V.fI l1A 1))) fun V44 => (rec 0 l1A ((0 : Int32)) 0 0 0 0 V44))
def mX6_loadStates (F : Nat) (l1A : Nat) (V : mV) : Option (Unit × mV) := mX6_loadStates_s F (mX6_loadStates_go F F) l1A V
set_option maxHeartbeats 4000000 in
set_option maxRecDepth 100000 in
theorem LX6_loadStates_go {α : Nat → Nat} {F : Nat} {Ln : Nat → Nat} {v : Unit} {V1 : mV} {Φ : (Unit → wPS → Prop)} : ∀ k' : Nat, (∀ (l1A : Nat) (l2I : Int32) (S : wPS) (V : mV) , mRel α S Ln V → mK l1A = 3 → mX6_loadStates_go F k' 0 l1A l2I 0 0 0 0 V = some (v, V1) → (∀ S1, mRel α S1 Ln V1 → mFr α S S1 → Φ v S1) → rX6_loadStates_go F k' 0 (α 8) (α l1A) l2I 0 0 0 0 S Φ) ∧ (∀ (l1A : Nat) (l2I : Int32) (l3I : Int32) (s0A : Nat) (s1I : Int32) (s2I : Int32) (S : wPS) (V : mV) , mRel α S Ln V → mK l1A = 3 → mK s0A = 13 → mX6_loadStates_go F k' 1 l1A l2I l3I s0A s1I s2I V = some (v, V1) → (∀ S1, mRel α S1 Ln V1 → mFr α S S1 → Φ v S1) → rX6_loadStates_go F k' 1 (α 8) (α l1A) l2I l3I (α s0A) s1I s2I S Φ) := by
  intro k'
  induction k' with
  | zero => exact ⟨(fun _ _ _ _ _ _ h _ => by cases h), (fun _ _ _ _ _ _ _ _ _ _ _ h _ => by cases h)⟩
  | succ k' ih =>
    refine ⟨?_, ?_⟩
    · intro l1A l2I S V R sl1A h k
      rw [mX6_loadStates_go, if_pos rfl] at h
      rw [rX6_loadStates_go, if_pos rfl]
      unfold mX6_loadStates_b0 at h
      unfold rX6_loadStates_b0
      refine mIf h (by rw [show gMachines_size S (α 8) = V.fI 8 7 from (mg_I (i := 8) R (by decide) rfl 7)]) (fun c1 h => ?_) (fun c1 h => ?_)
      · obtain ⟨rfl, rfl⟩ := mRW h
        exact k _ R mFr.rf
      · refine mIf h (by rw [show gEntry_itemCount S (α l1A) = V.fI l1A 6 from (mg_I (i := l1A) R (mO3 sl1A) rfl 6)]) (fun c2 h => ?_) (fun c2 h => ?_)
        · rw [show (wkAd (gMachines_byZero S (α 8))) = α 84 from (mg_A (t := 84) R rfl rfl)]
          exact ih.2 _ _ _ _ _ _ _ _ R sl1A rfl h (fun S1 R1 F1 => k S1 R1 F1)
        · obtain ⟨v3, hv3, h⟩ := mBN_some h
          refine LX3_at hv3 R sl1A rfl rfl rfl ?_
          rw [show (wkAd (gMachines_byZero S (α 8))) = α 84 from (mg_A (t := 84) R rfl rfl)]
          exact ih.2 _ _ _ _ _ _ _ _ R sl1A rfl h (fun S1 R1 F1 => k S1 R1 F1)
    · intro l1A l2I l3I s0A s1I s2I S V R sl1A ss0A h k
      rw [mX6_loadStates_go, if_neg (by decide), if_pos rfl] at h
      rw [rX6_loadStates_go, if_neg (by decide), if_pos rfl]
      unfold mX6_loadStates_b1 at h
      unfold rX6_loadStates_b1
      refine mGd h (by rw [show S.len (α s0A) = mLen s0A from (mg_len R (mA13 ss0A) rfl)]) (fun c3 h => ?_)
      obtain ⟨V9, eV9, h⟩ := mLt_some h
      refine mU_I eV9 R (mA13 ss0A) rfl rfl rfl (fun S9 R9 F9 => ?_)
      refine mIf h Iff.rfl (fun c4 h => ?_) (fun c4 h => ?_)
      · refine mGd h (by rw [show S9.len (wkAd (gMachines_byOne S9 (α 8))) = 8 from (mg_len (i := 85) R9 (mA13 rfl) (mg_A (t := 85) R9 rfl rfl))]) (fun c5 h => ?_)
        obtain ⟨V12, eV12, h⟩ := mLt_some h
        refine mU_I eV12 R9 (mA13 rfl) (mg_A (t := 85) R9 rfl rfl) rfl rfl (fun S12 R12 F12 => ?_)
        refine mIf h Iff.rfl (fun c6 h => ?_) (fun c6 h => ?_)
        · refine mGd h (by rw [show S12.len (wkAd (gMachines_finals S12 (α 8))) = 8 from (mg_len (i := 86) R12 (mA13 rfl) (mg_A (t := 86) R12 rfl rfl))]) (fun c7 h => ?_)
          obtain ⟨V15, eV15, h⟩ := mLt_some h
          refine mU_I eV15 R12 (mA13 rfl) (mg_A (t := 86) R12 rfl rfl) rfl rfl (fun S15 R15 F15 => ?_)
          refine mLet h rfl (fun x16 ex16 h => ?_)
          exact ih.1 _ _ _ _ R15 sl1A h (fun S1 R1 F1 => k S1 R1 (F9.tr (F12.tr (F15.tr F1))))
        · obtain ⟨v17, hv17, h⟩ := mBN_some h
          refine LX3_at hv17 R12 sl1A rfl rfl rfl ?_
          refine mGd h (by rw [show S12.len (wkAd (gMachines_finals S12 (α 8))) = 8 from (mg_len (i := 86) R12 (mA13 rfl) (mg_A (t := 86) R12 rfl rfl))]) (fun c8 h => ?_)
          obtain ⟨V23, eV23, h⟩ := mLt_some h
          refine mU_I eV23 R12 (mA13 rfl) (mg_A (t := 86) R12 rfl rfl) rfl rfl (fun S23 R23 F23 => ?_)
          refine mLet h rfl (fun x24 ex24 h => ?_)
          exact ih.1 _ _ _ _ R23 sl1A h (fun S1 R1 F1 => k S1 R1 (F9.tr (F12.tr (F23.tr F1))))
      · obtain ⟨v25, hv25, h⟩ := mBN_some h
        refine LX3_at hv25 R9 sl1A rfl rfl rfl ?_
        refine mGd h (by rw [show S9.len (wkAd (gMachines_byOne S9 (α 8))) = 8 from (mg_len (i := 85) R9 (mA13 rfl) (mg_A (t := 85) R9 rfl rfl))]) (fun c9 h => ?_)
        obtain ⟨V31, eV31, h⟩ := mLt_some h
        refine mU_I eV31 R9 (mA13 rfl) (mg_A (t := 85) R9 rfl rfl) rfl rfl (fun S31 R31 F31 => ?_)
        refine mIf h Iff.rfl (fun c10 h => ?_) (fun c10 h => ?_)
        · refine mGd h (by rw [show S31.len (wkAd (gMachines_finals S31 (α 8))) = 8 from (mg_len (i := 86) R31 (mA13 rfl) (mg_A (t := 86) R31 rfl rfl))]) (fun c11 h => ?_)
          obtain ⟨V34, eV34, h⟩ := mLt_some h
          refine mU_I eV34 R31 (mA13 rfl) (mg_A (t := 86) R31 rfl rfl) rfl rfl (fun S34 R34 F34 => ?_)
          refine mLet h rfl (fun x35 ex35 h => ?_)
          exact ih.1 _ _ _ _ R34 sl1A h (fun S1 R1 F1 => k S1 R1 (F9.tr (F31.tr (F34.tr F1))))
        · obtain ⟨v36, hv36, h⟩ := mBN_some h
          refine LX3_at hv36 R31 sl1A rfl rfl rfl ?_
          refine mGd h (by rw [show S31.len (wkAd (gMachines_finals S31 (α 8))) = 8 from (mg_len (i := 86) R31 (mA13 rfl) (mg_A (t := 86) R31 rfl rfl))]) (fun c12 h => ?_)
          obtain ⟨V42, eV42, h⟩ := mLt_some h
          refine mU_I eV42 R31 (mA13 rfl) (mg_A (t := 86) R31 rfl rfl) rfl rfl (fun S42 R42 F42 => ?_)
          refine mLet h rfl (fun x43 ex43 h => ?_)
          exact ih.1 _ _ _ _ R42 sl1A h (fun S1 R1 F1 => k S1 R1 (F9.tr (F31.tr (F42.tr F1))))
set_option maxHeartbeats 4000000 in
set_option maxRecDepth 100000 in
theorem LX6_loadStates {α : Nat → Nat} {F : Nat} {S : wPS} {Ln : Nat → Nat} {V V1 : mV} {v : Unit} {Φ : (Unit → wPS → Prop)} {l0Ax : Nat} {l1Ax : Nat} {l1A : Nat} (h : mX6_loadStates F l1A V = some (v, V1)) (R : mRel α S Ln V) (sl1A : mK l1A = 3) (el0A : l0Ax = α 8) (el1A : l1Ax = α l1A) (k : (∀ S1, mRel α S1 Ln V1 → mFr α S S1 → Φ v S1)) : rX6_loadStates F l0Ax l1Ax S Φ := by
  have el0A := el0A.symm
  subst el0A
  have el1A := el1A.symm
  subst el1A
  have ih := LX6_loadStates_go  (α := α) (F := F) (v := v) (Ln := Ln) (Φ := Φ) (V1 := V1) F
  unfold mX6_loadStates mX6_loadStates_s at h
  unfold rX6_loadStates rX6_loadStates_s
  obtain ⟨V44, eV44, h⟩ := mLt_some h
  refine mU_F eV44 R (by decide) rfl (by rw [show gEntry_size S (α l1A) = V.fI l1A 1 from (mg_I (i := l1A) R (mO3 sl1A) rfl 1)]) (fun S44 R44 F44 => ?_)
  exact ih.1 _ _ _ _ R44 sl1A h (fun S1 R1 F1 => k S1 R1 (F44.tr F1))
end
