/-! LIFTED BY PROGRAM (lift.py): X2_countWalks, X2_judgeDrawing, X2_areWaysOf, X4_isItemOf, X4_leftSide. -/
section
def mX2_countWalks_b0 (F : Nat) (rec : Nat → Int32 → Int32 → Int32 → Int32 → Int32 → Int32 → mV → Option Int32) (l1I : Int32) (l2I : Int32) (l3I : Int32) (l4I : Int32) (V : mV) : Option Int32 :=
  (if (V.fI 3 9) ≤ l4I then some (l3I) else (if l4I < 0 ∨ 22 ≤ (l4I).toNatClampNeg then none else (if l1I < (V.rI 30 (l4I).toNatClampNeg) then some (l3I) else (if l4I < 0 ∨ 22 ≤ (l4I).toNatClampNeg then none else (if l1I < (V.rI 31 (l4I).toNatClampNeg) then (mLt (l4I + (1 : Int32)) fun x6 => (rec 0 (l1I) (l2I) (l3I) (x6) 0 0 V)) else (if ((l2I >>> (l4I &&& 31)) &&& (1 : Int32)) = 0 then (rec 1 (l1I) (l2I) (l3I) (l4I) (l4I) ((0 : Int32)) V) else (mLt (l4I + (1 : Int32)) fun x8 => (rec 0 (l1I) (l2I) (l3I) (x8) 0 0 V))))))))
def mX2_countWalks_b1 (F : Nat) (rec : Nat → Int32 → Int32 → Int32 → Int32 → Int32 → Int32 → mV → Option Int32) (l1I : Int32) (l2I : Int32) (l3I : Int32) (l4I : Int32) (l5I : Int32) (l6I : Int32) (V : mV) : Option Int32 :=
  (if (22 : Int32) ≤ l6I then (mLt (l3I + (1 : Int32)) fun x10 => (mLt (l4I + (1 : Int32)) fun x11 => (rec 0 (l1I) (l2I) (x10) (x11) 0 0 V))) else (if ((l2I >>> (l5I &&& 31)) &&& (1 : Int32)) = 0 then (mLt (l2I ||| ((1 : Int32) <<< (l5I &&& 31))) fun x15 => (mBN (mX2_behind F (l5I) (l1I) V) fun v16 => (mLt (l6I + (1 : Int32)) fun x21 => (rec 1 (l1I) (x15) (l3I) (l4I) (v16) (x21) V)))) else (mLt (l3I + (1 : Int32)) fun x13 => (mLt (l4I + (1 : Int32)) fun x14 => (rec 0 (l1I) (l2I) (x13) (x14) 0 0 V)))))
def mX2_countWalks_go (F : Nat) : Nat → Nat → Int32 → Int32 → Int32 → Int32 → Int32 → Int32 → mV → Option Int32
  | 0, _, _, _, _, _, _, _, _ => none
  | k' + 1, lab, l1I, l2I, l3I, l4I, l5I, l6I, V => if lab = 0 then mX2_countWalks_b0 F (mX2_countWalks_go F k') l1I l2I l3I l4I V else if lab = 1 then mX2_countWalks_b1 F (mX2_countWalks_go F k') l1I l2I l3I l4I l5I l6I V else none
def mX2_countWalks_s (F : Nat) (rec : Nat → Int32 → Int32 → Int32 → Int32 → Int32 → Int32 → mV → Option Int32) (l1I : Int32) (V : mV) : Option Int32 :=
  (rec 0 (l1I) ((0 : Int32)) ((0 : Int32)) ((0 : Int32)) 0 0 V)
def mX2_countWalks (F : Nat) (l1I : Int32) (V : mV) : Option Int32 := mX2_countWalks_s F (mX2_countWalks_go F F) l1I V
set_option maxHeartbeats 4000000 in
set_option maxRecDepth 100000 in
theorem LX2_countWalks_go {α : Nat → Nat} {F : Nat} {Ln : Nat → Nat} {v : Int32} {Φ : (Int32 → wPS → Prop)} : ∀ k' : Nat, (∀ (l1I : Int32) (l2I : Int32) (l3I : Int32) (l4I : Int32) (S : wPS) (V : mV) , mRel α S Ln V → mX2_countWalks_go F k' 0 l1I l2I l3I l4I 0 0 V = some v → (Φ v S) → rX2_countWalks_go F k' 0 (α 3) l1I l2I l3I l4I 0 0 S Φ) ∧ (∀ (l1I : Int32) (l2I : Int32) (l3I : Int32) (l4I : Int32) (l5I : Int32) (l6I : Int32) (S : wPS) (V : mV) , mRel α S Ln V → mX2_countWalks_go F k' 1 l1I l2I l3I l4I l5I l6I V = some v → (Φ v S) → rX2_countWalks_go F k' 1 (α 3) l1I l2I l3I l4I l5I l6I S Φ) := by
  intro k'
  induction k' with
  | zero => exact ⟨(fun _ _ _ _ _ _ _ h _ => by cases h), (fun _ _ _ _ _ _ _ _ _ h _ => by cases h)⟩
  | succ k' ih =>
    refine ⟨?_, ?_⟩
    · intro l1I l2I l3I l4I S V R h k
      rw [mX2_countWalks_go, if_pos rfl] at h
      rw [rX2_countWalks_go, if_pos rfl]
      unfold mX2_countWalks_b0 at h
      unfold rX2_countWalks_b0
      refine mIf h (by rw [show gDrawings_places S (α 3) = V.fI 3 9 from (mg_I (i := 3) R (by decide) rfl 9)]) (fun c1 h => ?_) (fun c1 h => ?_)
      · cases h
        exact k
      · refine mGd h (by rw [show S.len (wkAd (gDrawings_owner S (α 3))) = 22 from (mg_len (i := 30) R (mA13 rfl) (mg_A (t := 30) R rfl rfl))]) (fun c2 h => ?_)
        refine mIf h (by rw [show S.rI (wkAd (gDrawings_owner S (α 3))) (l4I).toNatClampNeg = V.rI 30 (l4I).toNatClampNeg from (mg_rI (i := 30) R (mA13 rfl) (mg_A (t := 30) R rfl rfl) rfl)]) (fun c3 h => ?_) (fun c3 h => ?_)
        · cases h
          exact k
        · refine mGd h (by rw [show S.len (wkAd (gDrawings_ring S (α 3))) = 22 from (mg_len (i := 31) R (mA13 rfl) (mg_A (t := 31) R rfl rfl))]) (fun c4 h => ?_)
          refine mIf h (by rw [show S.rI (wkAd (gDrawings_ring S (α 3))) (l4I).toNatClampNeg = V.rI 31 (l4I).toNatClampNeg from (mg_rI (i := 31) R (mA13 rfl) (mg_A (t := 31) R rfl rfl) rfl)]) (fun c5 h => ?_) (fun c5 h => ?_)
          · refine mLet h rfl (fun x6 ex6 h => ?_)
            exact ih.1 _ _ _ _ _ _ R h k
          · refine mIf h Iff.rfl (fun c6 h => ?_) (fun c6 h => ?_)
            · exact ih.2 _ _ _ _ _ _ _ _ R h k
            · refine mLet h rfl (fun x8 ex8 h => ?_)
              exact ih.1 _ _ _ _ _ _ R h k
    · intro l1I l2I l3I l4I l5I l6I S V R h k
      rw [mX2_countWalks_go, if_neg (by decide), if_pos rfl] at h
      rw [rX2_countWalks_go, if_neg (by decide), if_pos rfl]
      unfold mX2_countWalks_b1 at h
      unfold rX2_countWalks_b1
      refine mIf h Iff.rfl (fun c7 h => ?_) (fun c7 h => ?_)
      · refine mLet h rfl (fun x10 ex10 h => ?_)
        refine mLet h rfl (fun x11 ex11 h => ?_)
        exact ih.1 _ _ _ _ _ _ R h k
      · refine mIf h Iff.rfl (fun c8 h => ?_) (fun c8 h => ?_)
        · refine mLet h rfl (fun x15 ex15 h => ?_)
          obtain ⟨v16, hv16, h⟩ := mBN_some h
          refine LX2_behind hv16 R rfl rfl rfl ?_
          refine mLet h rfl (fun x21 ex21 h => ?_)
          exact ih.2 _ _ _ _ _ _ _ _ R h k
        · refine mLet h rfl (fun x13 ex13 h => ?_)
          refine mLet h rfl (fun x14 ex14 h => ?_)
          exact ih.1 _ _ _ _ _ _ R h k
set_option maxHeartbeats 4000000 in
set_option maxRecDepth 100000 in
theorem LX2_countWalks {α : Nat → Nat} {F : Nat} {S : wPS} {Ln : Nat → Nat} {V : mV} {v : Int32} {Φ : (Int32 → wPS → Prop)} {l0Ax : Nat} {l1Ix l1I : Int32} (h : mX2_countWalks F l1I V = some v) (R : mRel α S Ln V) (el0A : l0Ax = α 3) (el1I : l1Ix = l1I) (k : (Φ v S)) : rX2_countWalks F l0Ax l1Ix S Φ := by
  have el0A := el0A.symm
  subst el0A
  have el1I := el1I.symm
  subst el1I
  have ih := LX2_countWalks_go  (α := α) (F := F) (v := v) (Ln := Ln) (Φ := Φ) F
  unfold mX2_countWalks mX2_countWalks_s at h
  unfold rX2_countWalks rX2_countWalks_s
  exact ih.1 _ _ _ _ _ _ R h k
def mX2_judgeDrawing_b0 (F : Nat) (rec : Nat → (Nat → Nat) → Nat → Int32 → mV → Option (Int32 × mV)) (Ln : Nat → Nat) (l2A : Nat) (l3I : Int32) (V : mV) : Option (Int32 × mV) :=
  (if (V.fI 3 9) ≤ l3I then (mBN (mX2_countWalks F (((V.fI 3 8) - (1 : Int32))) V) fun v2 => (if ((V.fI 3 8) - (1 : Int32)) < 0 ∨ 7 ≤ (((V.fI 3 8) - (1 : Int32))).toNatClampNeg then none else (if v2 = (V.rI 33 (((V.fI 3 8) - (1 : Int32))).toNatClampNeg) then some ((0 : Int32), V) else some ((3 : Int32), V)))) else (if l3I < 0 ∨ 22 ≤ (l3I).toNatClampNeg then none else (mLt (V.rI 30 (l3I).toNatClampNeg) fun x10 => (mBN (mX9_at F Ln l2A (l3I) V) fun v11 => (if v11 < 0 then some ((2 : Int32), V) else (if (V.fI 3 8) ≤ v11 then some ((2 : Int32), V) else (if x10 < 0 ∨ 7 ≤ (x10).toNatClampNeg then none else (if x10 < 0 ∨ 7 ≤ (x10).toNatClampNeg then none else (mBN (mX11_has F (((V.rI 27 (x10).toNatClampNeg) &&& ((V.rI 28 (x10).toNatClampNeg) ^^^ (-1 : Int32)))) (v11)) fun v20 => (if v20 = 0 then some ((2 : Int32), V) else (if x10 < 0 ∨ 7 ≤ (x10).toNatClampNeg then none else (if l3I = (V.rI 29 (x10).toNatClampNeg) then (if x10 < 0 ∨ 7 ≤ (x10).toNatClampNeg then none else (mBN (mX11_lowest F ((V.rI 27 (x10).toNatClampNeg))) fun v38 => (if v11 = v38 then (if x10 < 0 ∨ 7 ≤ (x10).toNatClampNeg then none else (if x10 < 0 ∨ 7 ≤ (x10).toNatClampNeg then none else (mLt (mI V 28 (x10) (((V.rI 28 (x10).toNatClampNeg) ||| ((1 : Int32) <<< (v11 &&& 31))))) fun V46 => (mBW (mX2_setPlace F (l3I) (v11) V46) fun v47 V48 => (mLt (l3I + (1 : Int32)) fun x52 => (rec 0 Ln l2A (x52) V48)))))) else some ((2 : Int32), V)))) else (if x10 < 0 ∨ 7 ≤ (x10).toNatClampNeg then none else (if x10 < 0 ∨ 7 ≤ (x10).toNatClampNeg then none else (mLt (mI V 28 (x10) (((V.rI 28 (x10).toNatClampNeg) ||| ((1 : Int32) <<< (v11 &&& 31))))) fun V30 => (mBW (mX2_setPlace F (l3I) (v11) V30) fun v31 V32 => (mLt (l3I + (1 : Int32)) fun x36 => (rec 0 Ln l2A (x36) V32))))))))))))))))))
def mX2_judgeDrawing_go (F : Nat) : Nat → Nat → (Nat → Nat) → Nat → Int32 → mV → Option (Int32 × mV)
  | 0, _, _, _, _, _ => none
  | k' + 1, lab, Ln, l2A, l3I, V => if lab = 0 then mX2_judgeDrawing_b0 F (mX2_judgeDrawing_go F k') Ln l2A l3I V else none
def mX2_judgeDrawing_s (F : Nat) (rec : Nat → (Nat → Nat) → Nat → Int32 → mV → Option (Int32 × mV)) (Ln : Nat → Nat) (l1A : Nat) (l2A : Nat) (V : mV) : Option (Int32 × mV) :=
  (mBN (mX2_countedItems F l1A V) fun v53 => (mBW (mX2_loadEdges F l1A (v53) V) fun v58 V59 => (if (V59.fI l2A 1) = (V59.fI 3 9) then (rec 0 Ln l2A ((0 : Int32)) V59) else some ((1 : Int32), V59))))
def mX2_judgeDrawing (F : Nat) (Ln : Nat → Nat) (l1A : Nat) (l2A : Nat) (V : mV) : Option (Int32 × mV) := mX2_judgeDrawing_s F (mX2_judgeDrawing_go F F) Ln l1A l2A V
set_option maxHeartbeats 4000000 in
set_option maxRecDepth 100000 in
theorem LX2_judgeDrawing_go {α : Nat → Nat} {F : Nat} {v : Int32} {V1 : mV} {Φ : (Int32 → wPS → Prop)} : ∀ k' : Nat, (∀ (l2A : Nat) (l3I : Int32) (S : wPS) (V : mV) (Ln : Nat → Nat) , mRel α S Ln V → mK l2A = 9 → mX2_judgeDrawing_go F k' 0 Ln l2A l3I V = some (v, V1) → (∀ S1, mRel α S1 Ln V1 → mFr α S S1 → Φ v S1) → rX2_judgeDrawing_go F k' 0 (α 3) (α l2A) l3I S Φ) := by
  intro k'
  induction k' with
  | zero => exact (fun _ _ _ _ _ _ _ h _ => by cases h)
  | succ k' ih =>
    intro l2A l3I S V Ln R sl2A h k
    rw [mX2_judgeDrawing_go, if_pos rfl] at h
    rw [rX2_judgeDrawing_go, if_pos rfl]
    unfold mX2_judgeDrawing_b0 at h
    unfold rX2_judgeDrawing_b0
    refine mIf h (by rw [show gDrawings_places S (α 3) = V.fI 3 9 from (mg_I (i := 3) R (by decide) rfl 9)]) (fun c1 h => ?_) (fun c1 h => ?_)
    · obtain ⟨v2, hv2, h⟩ := mBN_some h
      refine LX2_countWalks hv2 R rfl (by rw [show gDrawings_nodeCount S (α 3) = V.fI 3 8 from (mg_I (i := 3) R (by decide) rfl 8)]) ?_
      refine mGd h (by rw [show S.len (wkAd (gDrawings_walksDue S (α 3))) = 7 from (mg_len (i := 33) R (mA13 rfl) (mg_A (t := 33) R rfl rfl)), show gDrawings_nodeCount S (α 3) = V.fI 3 8 from (mg_I (i := 3) R (by decide) rfl 8)]) (fun c2 h => ?_)
      refine mIf h (by rw [show S.rI (wkAd (gDrawings_walksDue S (α 3))) (((gDrawings_nodeCount S (α 3)) - (1 : Int32))).toNatClampNeg = V.rI 33 (((V.fI 3 8) - (1 : Int32))).toNatClampNeg from (mg_rI (i := 33) R (mA13 rfl) (mg_A (t := 33) R rfl rfl) (by rw [show gDrawings_nodeCount S (α 3) = V.fI 3 8 from (mg_I (i := 3) R (by decide) rfl 8)]))]) (fun c3 h => ?_) (fun c3 h => ?_)
      · obtain ⟨rfl, rfl⟩ := mRW h
        exact k _ R mFr.rf
      · obtain ⟨rfl, rfl⟩ := mRW h
        exact k _ R mFr.rf
    · refine mGd h (by rw [show S.len (wkAd (gDrawings_owner S (α 3))) = 22 from (mg_len (i := 30) R (mA13 rfl) (mg_A (t := 30) R rfl rfl))]) (fun c4 h => ?_)
      refine mLet h (by rw [show S.rI (wkAd (gDrawings_owner S (α 3))) (l3I).toNatClampNeg = V.rI 30 (l3I).toNatClampNeg from (mg_rI (i := 30) R (mA13 rfl) (mg_A (t := 30) R rfl rfl) rfl)]) (fun x10 ex10 h => ?_)
      obtain ⟨v11, hv11, h⟩ := mBN_some h
      refine LX9_at hv11 R sl2A rfl rfl ?_
      refine mIf h Iff.rfl (fun c5 h => ?_) (fun c5 h => ?_)
      · obtain ⟨rfl, rfl⟩ := mRW h
        exact k _ R mFr.rf
      · refine mIf h (by rw [show gDrawings_nodeCount S (α 3) = V.fI 3 8 from (mg_I (i := 3) R (by decide) rfl 8)]) (fun c6 h => ?_) (fun c6 h => ?_)
        · obtain ⟨rfl, rfl⟩ := mRW h
          exact k _ R mFr.rf
        · refine mGd h (by rw [show S.len (wkAd (gDrawings_near S (α 3))) = 7 from (mg_len (i := 27) R (mA13 rfl) (mg_A (t := 27) R rfl rfl))]) (fun c7 h => ?_)
          refine mGd h (by rw [show S.len (wkAd (gDrawings_used S (α 3))) = 7 from (mg_len (i := 28) R (mA13 rfl) (mg_A (t := 28) R rfl rfl))]) (fun c8 h => ?_)
          obtain ⟨v20, hv20, h⟩ := mBN_some h
          refine LX11_has hv20 (by rw [show S.rI (wkAd (gDrawings_near S (α 3))) (x10).toNatClampNeg = V.rI 27 (x10).toNatClampNeg from (mg_rI (i := 27) R (mA13 rfl) (mg_A (t := 27) R rfl rfl) rfl), show S.rI (wkAd (gDrawings_used S (α 3))) (x10).toNatClampNeg = V.rI 28 (x10).toNatClampNeg from (mg_rI (i := 28) R (mA13 rfl) (mg_A (t := 28) R rfl rfl) rfl)]) rfl ?_
          refine mIf h Iff.rfl (fun c9 h => ?_) (fun c9 h => ?_)
          · obtain ⟨rfl, rfl⟩ := mRW h
            exact k _ R mFr.rf
          · refine mGd h (by rw [show S.len (wkAd (gDrawings_firstPlace S (α 3))) = 7 from (mg_len (i := 29) R (mA13 rfl) (mg_A (t := 29) R rfl rfl))]) (fun c10 h => ?_)
            refine mIf h (by rw [show S.rI (wkAd (gDrawings_firstPlace S (α 3))) (x10).toNatClampNeg = V.rI 29 (x10).toNatClampNeg from (mg_rI (i := 29) R (mA13 rfl) (mg_A (t := 29) R rfl rfl) rfl)]) (fun c11 h => ?_) (fun c11 h => ?_)
            · refine mGd h (by rw [show S.len (wkAd (gDrawings_near S (α 3))) = 7 from (mg_len (i := 27) R (mA13 rfl) (mg_A (t := 27) R rfl rfl))]) (fun c12 h => ?_)
              obtain ⟨v38, hv38, h⟩ := mBN_some h
              refine LX11_lowest hv38 (by rw [show S.rI (wkAd (gDrawings_near S (α 3))) (x10).toNatClampNeg = V.rI 27 (x10).toNatClampNeg from (mg_rI (i := 27) R (mA13 rfl) (mg_A (t := 27) R rfl rfl) rfl)]) ?_
              refine mIf h Iff.rfl (fun c13 h => ?_) (fun c13 h => ?_)
              · refine mGd h (by rw [show S.len (wkAd (gDrawings_used S (α 3))) = 7 from (mg_len (i := 28) R (mA13 rfl) (mg_A (t := 28) R rfl rfl))]) (fun c14 h => ?_)
                refine mGd h (by rw [show S.len (wkAd (gDrawings_used S (α 3))) = 7 from (mg_len (i := 28) R (mA13 rfl) (mg_A (t := 28) R rfl rfl))]) (fun c15 h => ?_)
                obtain ⟨V46, eV46, h⟩ := mLt_some h
                refine mU_I eV46 R (mA13 rfl) (mg_A (t := 28) R rfl rfl) rfl (by rw [show S.rI (wkAd (gDrawings_used S (α 3))) (x10).toNatClampNeg = V.rI 28 (x10).toNatClampNeg from (mg_rI (i := 28) R (mA13 rfl) (mg_A (t := 28) R rfl rfl) rfl)]) (fun S46 R46 F46 => ?_)
                obtain ⟨v47, V48, hv47, h⟩ := mBW_some h
                refine LX2_setPlace hv47 R46 rfl rfl rfl (fun S48 R48 F48 => ?_)
                refine mLet h rfl (fun x52 ex52 h => ?_)
                exact ih _ _ _ _ _ R48 sl2A h (fun S1 R1 F1 => k S1 R1 (F46.tr (F48.tr F1)))
              · obtain ⟨rfl, rfl⟩ := mRW h
                exact k _ R mFr.rf
            · refine mGd h (by rw [show S.len (wkAd (gDrawings_used S (α 3))) = 7 from (mg_len (i := 28) R (mA13 rfl) (mg_A (t := 28) R rfl rfl))]) (fun c16 h => ?_)
              refine mGd h (by rw [show S.len (wkAd (gDrawings_used S (α 3))) = 7 from (mg_len (i := 28) R (mA13 rfl) (mg_A (t := 28) R rfl rfl))]) (fun c17 h => ?_)
              obtain ⟨V30, eV30, h⟩ := mLt_some h
              refine mU_I eV30 R (mA13 rfl) (mg_A (t := 28) R rfl rfl) rfl (by rw [show S.rI (wkAd (gDrawings_used S (α 3))) (x10).toNatClampNeg = V.rI 28 (x10).toNatClampNeg from (mg_rI (i := 28) R (mA13 rfl) (mg_A (t := 28) R rfl rfl) rfl)]) (fun S30 R30 F30 => ?_)
              obtain ⟨v31, V32, hv31, h⟩ := mBW_some h
              refine LX2_setPlace hv31 R30 rfl rfl rfl (fun S32 R32 F32 => ?_)
              refine mLet h rfl (fun x36 ex36 h => ?_)
              exact ih _ _ _ _ _ R32 sl2A h (fun S1 R1 F1 => k S1 R1 (F30.tr (F32.tr F1)))
set_option maxHeartbeats 4000000 in
set_option maxRecDepth 100000 in
theorem LX2_judgeDrawing {α : Nat → Nat} {F : Nat} {S : wPS} {Ln : Nat → Nat} {V V1 : mV} {v : Int32} {Φ : (Int32 → wPS → Prop)} {l0Ax : Nat} {l1Ax : Nat} {l1A : Nat} {l2Ax : Nat} {l2A : Nat} (h : mX2_judgeDrawing F Ln l1A l2A V = some (v, V1)) (R : mRel α S Ln V) (sl1A : mK l1A = 3) (sl2A : mK l2A = 9) (el0A : l0Ax = α 3) (el1A : l1Ax = α l1A) (el2A : l2Ax = α l2A) (k : (∀ S1, mRel α S1 Ln V1 → mFr α S S1 → Φ v S1)) : rX2_judgeDrawing F l0Ax l1Ax l2Ax S Φ := by
  have el0A := el0A.symm
  subst el0A
  have el1A := el1A.symm
  subst el1A
  have el2A := el2A.symm
  subst el2A
  have ih := LX2_judgeDrawing_go  (α := α) (F := F) (v := v) (Φ := Φ) (V1 := V1) F
  unfold mX2_judgeDrawing mX2_judgeDrawing_s at h
  unfold rX2_judgeDrawing rX2_judgeDrawing_s
  obtain ⟨v53, hv53, h⟩ := mBN_some h
  refine LX2_countedItems hv53 R sl1A rfl ?_
  obtain ⟨v58, V59, hv58, h⟩ := mBW_some h
  refine LX2_loadEdges hv58 R sl1A rfl rfl rfl (fun S59 R59 F59 => ?_)
  refine mIf h (by rw [show gDrawings_places S59 (α 3) = V59.fI 3 9 from (mg_I (i := 3) R59 (by decide) rfl 9), show gRow_count S59 (α l2A) = V59.fI l2A 1 from (mg_I (i := l2A) R59 (mO9 sl2A) rfl 1)]) (fun c18 h => ?_) (fun c18 h => ?_)
  · exact ih _ _ _ _ _ R59 sl2A h (fun S1 R1 F1 => k S1 R1 (F59.tr F1))
  · obtain ⟨rfl, rfl⟩ := mRW h
    exact k _ R59 F59
def mX2_areWaysOf_b0 (F : Nat) (rec : Nat → Int32 → Int32 → Int32 → Int32 → mV → Option (Int32 × mV)) (l1I : Int32) (l2I : Int32) (l3I : Int32) (V : mV) : Option (Int32 × mV) :=
  (if (V.fI 3 8) ≤ l3I then (if l2I = (V.fI 3 9) then (if l1I = (5 : Int32) then some ((1 : Int32), V) else (mBN (mX2_areTwoHalves F V) fun v4 => (if v4 = 0 then some ((0 : Int32), V) else some ((1 : Int32), V)))) else some ((0 : Int32), V)) else (rec 1 (l1I) (l2I) (l3I) ((0 : Int32)) V))
def mX2_areWaysOf_b1 (F : Nat) (rec : Nat → Int32 → Int32 → Int32 → Int32 → mV → Option (Int32 × mV)) (l1I : Int32) (l2I : Int32) (l3I : Int32) (l4I : Int32) (V : mV) : Option (Int32 × mV) :=
  (if (V.fI 3 8) ≤ l4I then (mLt (l3I + (1 : Int32)) fun x11 => (rec 0 (l1I) (l2I) (x11) 0 V)) else (if l3I < 0 ∨ 7 ≤ (l3I).toNatClampNeg then none else (mBN (mJ6_bitCount_0f7a4 F ((V.rI 27 (l3I).toNatClampNeg))) fun v13 => (if v13 ≤ (2 : Int32) then (mLt (l4I + (1 : Int32)) fun x19 => (rec 1 (l1I) (l2I) (l3I) (x19) V)) else (if l3I < 0 ∨ 7 ≤ (l3I).toNatClampNeg then none else (mBN (mX11_has F ((V.rI 27 (l3I).toNatClampNeg)) (l4I)) fun v21 => (if v21 = 0 then (mLt (l4I + (1 : Int32)) fun x27 => (rec 1 (l1I) (l2I) (l3I) (x27) V)) else (mBW (mX2_followWay F (l3I) (l4I) V) fun v28 V29 => (if v28 = 0 then some ((0 : Int32), V29) else (mLt (l2I + v28) fun x34 => (mLt (l4I + (1 : Int32)) fun x35 => (rec 1 (l1I) (x34) (l3I) (x35) V29))))))))))))
def mX2_areWaysOf_go (F : Nat) : Nat → Nat → Int32 → Int32 → Int32 → Int32 → mV → Option (Int32 × mV)
  | 0, _, _, _, _, _, _ => none
  | k' + 1, lab, l1I, l2I, l3I, l4I, V => if lab = 0 then mX2_areWaysOf_b0 F (mX2_areWaysOf_go F k') l1I l2I l3I V else if lab = 1 then mX2_areWaysOf_b1 F (mX2_areWaysOf_go F k') l1I l2I l3I l4I V else none
def mX2_areWaysOf_s (F : Nat) (rec : Nat → Int32 → Int32 → Int32 → Int32 → mV → Option (Int32 × mV)) (l1I : Int32) (V : mV) : Option (Int32 × mV) :=
  (mBW (mJ7_fill_53178 F 34 ((0 : Int32)) V) fun v36 V37 => (rec 0 (l1I) ((0 : Int32)) ((0 : Int32)) 0 V37))
def mX2_areWaysOf (F : Nat) (l1I : Int32) (V : mV) : Option (Int32 × mV) := mX2_areWaysOf_s F (mX2_areWaysOf_go F F) l1I V
set_option maxHeartbeats 4000000 in
set_option maxRecDepth 100000 in
theorem LX2_areWaysOf_go {α : Nat → Nat} {F : Nat} {Ln : Nat → Nat} {v : Int32} {V1 : mV} {Φ : (Int32 → wPS → Prop)} : ∀ k' : Nat, (∀ (l1I : Int32) (l2I : Int32) (l3I : Int32) (S : wPS) (V : mV) , mRel α S Ln V → mX2_areWaysOf_go F k' 0 l1I l2I l3I 0 V = some (v, V1) → (∀ S1, mRel α S1 Ln V1 → mFr α S S1 → Φ v S1) → rX2_areWaysOf_go F k' 0 (α 3) l1I l2I l3I 0 S Φ) ∧ (∀ (l1I : Int32) (l2I : Int32) (l3I : Int32) (l4I : Int32) (S : wPS) (V : mV) , mRel α S Ln V → mX2_areWaysOf_go F k' 1 l1I l2I l3I l4I V = some (v, V1) → (∀ S1, mRel α S1 Ln V1 → mFr α S S1 → Φ v S1) → rX2_areWaysOf_go F k' 1 (α 3) l1I l2I l3I l4I S Φ) := by
  intro k'
  induction k' with
  | zero => exact ⟨(fun _ _ _ _ _ _ h _ => by cases h), (fun _ _ _ _ _ _ _ h _ => by cases h)⟩
  | succ k' ih =>
    refine ⟨?_, ?_⟩
    · intro l1I l2I l3I S V R h k
      rw [mX2_areWaysOf_go, if_pos rfl] at h
      rw [rX2_areWaysOf_go, if_pos rfl]
      unfold mX2_areWaysOf_b0 at h
      unfold rX2_areWaysOf_b0
      refine mIf h (by rw [show gDrawings_nodeCount S (α 3) = V.fI 3 8 from (mg_I (i := 3) R (by decide) rfl 8)]) (fun c1 h => ?_) (fun c1 h => ?_)
      · refine mIf h (by rw [show gDrawings_places S (α 3) = V.fI 3 9 from (mg_I (i := 3) R (by decide) rfl 9)]) (fun c2 h => ?_) (fun c2 h => ?_)
        · refine mIf h Iff.rfl (fun c3 h => ?_) (fun c3 h => ?_)
          · obtain ⟨rfl, rfl⟩ := mRW h
            exact k _ R mFr.rf
          · obtain ⟨v4, hv4, h⟩ := mBN_some h
            refine LX2_areTwoHalves hv4 R rfl ?_
            refine mIf h Iff.rfl (fun c4 h => ?_) (fun c4 h => ?_)
            · obtain ⟨rfl, rfl⟩ := mRW h
              exact k _ R mFr.rf
            · obtain ⟨rfl, rfl⟩ := mRW h
              exact k _ R mFr.rf
        · obtain ⟨rfl, rfl⟩ := mRW h
          exact k _ R mFr.rf
      · exact ih.2 _ _ _ _ _ _ R h (fun S1 R1 F1 => k S1 R1 F1)
    · intro l1I l2I l3I l4I S V R h k
      rw [mX2_areWaysOf_go, if_neg (by decide), if_pos rfl] at h
      rw [rX2_areWaysOf_go, if_neg (by decide), if_pos rfl]
      unfold mX2_areWaysOf_b1 at h
      unfold rX2_areWaysOf_b1
      refine mIf h (by rw [show gDrawings_nodeCount S (α 3) = V.fI 3 8 from (mg_I (i := 3) R (by decide) rfl 8)]) (fun c5 h => ?_) (fun c5 h => ?_)
      · refine mLet h rfl (fun x11 ex11 h => ?_)
        exact ih.1 _ _ _ _ _ R h (fun S1 R1 F1 => k S1 R1 F1)
      · refine mGd h (by rw [show S.len (wkAd (gDrawings_near S (α 3))) = 7 from (mg_len (i := 27) R (mA13 rfl) (mg_A (t := 27) R rfl rfl))]) (fun c6 h => ?_)
        obtain ⟨v13, hv13, h⟩ := mBN_some h
        refine LJ6_bitCount_0f7a4 hv13 (by rw [show S.rI (wkAd (gDrawings_near S (α 3))) (l3I).toNatClampNeg = V.rI 27 (l3I).toNatClampNeg from (mg_rI (i := 27) R (mA13 rfl) (mg_A (t := 27) R rfl rfl) rfl)]) ?_
        refine mIf h Iff.rfl (fun c7 h => ?_) (fun c7 h => ?_)
        · refine mLet h rfl (fun x19 ex19 h => ?_)
          exact ih.2 _ _ _ _ _ _ R h (fun S1 R1 F1 => k S1 R1 F1)
        · refine mGd h (by rw [show S.len (wkAd (gDrawings_near S (α 3))) = 7 from (mg_len (i := 27) R (mA13 rfl) (mg_A (t := 27) R rfl rfl))]) (fun c8 h => ?_)
          obtain ⟨v21, hv21, h⟩ := mBN_some h
          refine LX11_has hv21 (by rw [show S.rI (wkAd (gDrawings_near S (α 3))) (l3I).toNatClampNeg = V.rI 27 (l3I).toNatClampNeg from (mg_rI (i := 27) R (mA13 rfl) (mg_A (t := 27) R rfl rfl) rfl)]) rfl ?_
          refine mIf h Iff.rfl (fun c9 h => ?_) (fun c9 h => ?_)
          · refine mLet h rfl (fun x27 ex27 h => ?_)
            exact ih.2 _ _ _ _ _ _ R h (fun S1 R1 F1 => k S1 R1 F1)
          · obtain ⟨v28, V29, hv28, h⟩ := mBW_some h
            refine LX2_followWay hv28 R rfl rfl rfl (fun S29 R29 F29 => ?_)
            refine mIf h Iff.rfl (fun c10 h => ?_) (fun c10 h => ?_)
            · obtain ⟨rfl, rfl⟩ := mRW h
              exact k _ R29 F29
            · refine mLet h rfl (fun x34 ex34 h => ?_)
              refine mLet h rfl (fun x35 ex35 h => ?_)
              exact ih.2 _ _ _ _ _ _ R29 h (fun S1 R1 F1 => k S1 R1 (F29.tr F1))
set_option maxHeartbeats 4000000 in
set_option maxRecDepth 100000 in
theorem LX2_areWaysOf {α : Nat → Nat} {F : Nat} {S : wPS} {Ln : Nat → Nat} {V V1 : mV} {v : Int32} {Φ : (Int32 → wPS → Prop)} {l0Ax : Nat} {l1Ix l1I : Int32} (h : mX2_areWaysOf F l1I V = some (v, V1)) (R : mRel α S Ln V) (el0A : l0Ax = α 3) (el1I : l1Ix = l1I) (k : (∀ S1, mRel α S1 Ln V1 → mFr α S S1 → Φ v S1)) : rX2_areWaysOf F l0Ax l1Ix S Φ := by
  have el0A := el0A.symm
  subst el0A
  have el1I := el1I.symm
  subst el1I
  have ih := LX2_areWaysOf_go  (α := α) (F := F) (v := v) (Ln := Ln) (Φ := Φ) (V1 := V1) F
  unfold mX2_areWaysOf mX2_areWaysOf_s at h
  unfold rX2_areWaysOf rX2_areWaysOf_s
  obtain ⟨v36, V37, hv36, h⟩ := mBW_some h
  refine LJ7_fill_53178 hv36 R rfl (mg_A (t := 34) R rfl rfl) rfl (fun S37 R37 F37 => ?_)
  exact ih.1 _ _ _ _ _ R37 h (fun S1 R1 F1 => k S1 R1 (F37.tr F1))
def mX4_isItemOf (F : Nat) (l1A : Nat) (l2I : Int32) (l3A : Nat) (V : mV) : Option Int32 :=
  (mLt ((V.fI l1A 1) - (1 : Int32)) fun x1 => (if (V.fI l1A 0) = 0 then (mBN (mX4_areUnlikeNodes F l3A (x1) V) fun v4 => (if ¬ ((v4 = 0 ∨ v4 = 1)) then none else some (v4))) else (if (V.fI l1A 0) = 1 then (mBN (mX4_areUnlikeNodes F l3A (x1) V) fun v11 => (if v11 = 0 then some ((0 : Int32)) else (if (2 : Int32) < 0 ∨ mLen l3A ≤ ((2 : Int32)).toNatClampNeg then none else (mBN (mX4_isWithin F ((V.rI l3A ((2 : Int32)).toNatClampNeg)) ((0 : Int32)) ((6 : Int32))) fun v18 => (if v18 = 0 then some ((0 : Int32)) else some ((1 : Int32))))))) else (if (V.fI l1A 0) = 2 then (mBN (mX4_areUnlikeNodes F l3A (x1) V) fun v25 => (if ¬ ((v25 = 0 ∨ v25 = 1)) then none else some (v25))) else (if (V.fI l1A 0) = 3 then (mBN (mX4_areWithin F l3A ((V.fI l1A 1)) ((9 : Int32)) V) fun v32 => (if v32 = 0 then some ((0 : Int32)) else (if (4 : Int32) < 0 ∨ mLen l3A ≤ ((4 : Int32)).toNatClampNeg then none else (mBN (mX4_isWithin F ((V.rI l3A ((4 : Int32)).toNatClampNeg)) ((-60 : Int32)) ((60 : Int32))) fun v39 => (if v39 = 0 then some ((0 : Int32)) else some ((1 : Int32))))))) else (if (V.fI l1A 0) = 4 then (mBN (mX4_areWithin F l3A ((3 : Int32)) ((V.fI l1A 1)) V) fun v46 => (if v46 = 0 then some ((0 : Int32)) else (if (0 : Int32) < 0 ∨ mLen l3A ≤ ((0 : Int32)).toNatClampNeg then none else (if (V.rI l3A ((0 : Int32)).toNatClampNeg) = 0 then (if (1 : Int32) < 0 ∨ mLen l3A ≤ ((1 : Int32)).toNatClampNeg then none else (if (V.rI l3A ((1 : Int32)).toNatClampNeg) = 0 then (if (2 : Int32) < 0 ∨ mLen l3A ≤ ((2 : Int32)).toNatClampNeg then none else (if (V.rI l3A ((2 : Int32)).toNatClampNeg) = 0 then some ((0 : Int32)) else some ((1 : Int32)))) else some ((1 : Int32)))) else some ((1 : Int32)))))) else (if (V.fI l1A 0) = 5 then (mBN (mX4_areWithin F l3A ((V.fI l1A 1)) ((6 : Int32)) V) fun v59 => (if v59 = 0 then some ((0 : Int32)) else (if (4 : Int32) < 0 ∨ mLen l3A ≤ ((4 : Int32)).toNatClampNeg then none else (mBN (mX4_isWithin F ((V.rI l3A ((4 : Int32)).toNatClampNeg)) ((-20 : Int32)) ((20 : Int32))) fun v66 => (if v66 = 0 then some ((0 : Int32)) else some ((1 : Int32))))))) else (if (V.fI l1A 0) = 6 then some ((1 : Int32)) else (if (V.fI l1A 0) = 7 then (mBN (mX4_areWithin F l3A ((4 : Int32)) ((7 : Int32)) V) fun v74 => (if ¬ ((v74 = 0 ∨ v74 = 1)) then none else some (v74))) else (if (V.fI l1A 0) = 8 then (mBN (mX4_areUnlikePoints F l3A (x1) V) fun v81 => (if ¬ ((v81 = 0 ∨ v81 = 1)) then none else some (v81))) else (if (V.fI l1A 0) = 9 then (if l2I = 0 then (mBN (mX4_areWords F l3A ((255 : Int32)) V) fun v95 => (if ¬ ((v95 = 0 ∨ v95 = 1)) then none else some (v95))) else (mBN (mX4_areWords F l3A ((31 : Int32)) V) fun v89 => (if ¬ ((v89 = 0 ∨ v89 = 1)) then none else some (v89)))) else (if (V.fI l1A 0) = 10 then (if (0 : Int32) < 0 ∨ mLen l3A ≤ ((0 : Int32)).toNatClampNeg then none else (mBN (mX4_isWithin F ((V.rI l3A ((0 : Int32)).toNatClampNeg)) ((0 : Int32)) (x1)) fun v103 => (if v103 = 0 then some ((0 : Int32)) else (if (1 : Int32) < 0 ∨ mLen l3A ≤ ((1 : Int32)).toNatClampNeg then none else (mBN (mX4_isWithin F ((V.rI l3A ((1 : Int32)).toNatClampNeg)) ((0 : Int32)) (x1)) fun v110 => (if v110 = 0 then some ((0 : Int32)) else (if (2 : Int32) < 0 ∨ mLen l3A ≤ ((2 : Int32)).toNatClampNeg then none else (mBN (mX4_isWithin F ((V.rI l3A ((2 : Int32)).toNatClampNeg)) ((0 : Int32)) ((1 : Int32))) fun v117 => (if v117 = 0 then some ((0 : Int32)) else some ((1 : Int32))))))))))) else (mBN (mX4_isGameItem F l3A (x1) V) fun v123 => (if ¬ ((v123 = 0 ∨ v123 = 1)) then none else some (v123)))))))))))))))
set_option maxHeartbeats 4000000 in
set_option maxRecDepth 100000 in
theorem LX4_isItemOf {α : Nat → Nat} {F : Nat} {S : wPS} {Ln : Nat → Nat} {V : mV} {v : Int32} {Φ : (Int32 → wPS → Prop)} {l0Ax : Nat} {l1Ax : Nat} {l1A : Nat} {l2Ix l2I : Int32} {l3Ax : Nat} {l3A : Nat} (h : mX4_isItemOf F l1A l2I l3A V = some v) (R : mRel α S Ln V) (sl1A : mK l1A = 3) (sl3A : mK l3A = 13) (el0A : l0Ax = α 1) (el1A : l1Ax = α l1A) (el2I : l2Ix = l2I) (el3A : l3Ax = α l3A) (k : (Φ v S)) : rX4_isItemOf F l0Ax l1Ax l2Ix l3Ax S Φ := by
  have el0A := el0A.symm
  subst el0A
  have el1A := el1A.symm
  subst el1A
  have el2I := el2I.symm
  subst el2I
  have el3A := el3A.symm
  subst el3A
  unfold mX4_isItemOf at h
  unfold rX4_isItemOf
  refine mLet h (by rw [show gEntry_size S (α l1A) = V.fI l1A 1 from (mg_I (i := l1A) R (mO3 sl1A) rfl 1)]) (fun x1 ex1 h => ?_)
  refine mIf h (by rw [show gEntry_kind S (α l1A) = V.fI l1A 0 from (mg_I (i := l1A) R (mO3 sl1A) rfl 0)]) (fun c1 h => ?_) (fun c1 h => ?_)
  · obtain ⟨v4, hv4, h⟩ := mBN_some h
    refine LX4_areUnlikeNodes hv4 R sl3A rfl rfl ?_
    refine mGp h Iff.rfl (fun c2 h => ?_)
    cases h
    exact k
  · refine mIf h (by rw [show gEntry_kind S (α l1A) = V.fI l1A 0 from (mg_I (i := l1A) R (mO3 sl1A) rfl 0)]) (fun c3 h => ?_) (fun c3 h => ?_)
    · obtain ⟨v11, hv11, h⟩ := mBN_some h
      refine LX4_areUnlikeNodes hv11 R sl3A rfl rfl ?_
      refine mIf h Iff.rfl (fun c4 h => ?_) (fun c4 h => ?_)
      · cases h
        exact k
      · refine mGd h (by rw [show S.len (α l3A) = mLen l3A from (mg_len R (mA13 sl3A) rfl)]) (fun c5 h => ?_)
        obtain ⟨v18, hv18, h⟩ := mBN_some h
        refine LX4_isWithin hv18 (by rw [show S.rI (α l3A) ((2 : Int32)).toNatClampNeg = V.rI l3A ((2 : Int32)).toNatClampNeg from (mg_rI (i := l3A) R (mA13 sl3A) rfl rfl)]) rfl rfl ?_
        refine mIf h Iff.rfl (fun c6 h => ?_) (fun c6 h => ?_)
        · cases h
          exact k
        · cases h
          exact k
    · refine mIf h (by rw [show gEntry_kind S (α l1A) = V.fI l1A 0 from (mg_I (i := l1A) R (mO3 sl1A) rfl 0)]) (fun c7 h => ?_) (fun c7 h => ?_)
      · obtain ⟨v25, hv25, h⟩ := mBN_some h
        refine LX4_areUnlikeNodes hv25 R sl3A rfl rfl ?_
        refine mGp h Iff.rfl (fun c8 h => ?_)
        cases h
        exact k
      · refine mIf h (by rw [show gEntry_kind S (α l1A) = V.fI l1A 0 from (mg_I (i := l1A) R (mO3 sl1A) rfl 0)]) (fun c9 h => ?_) (fun c9 h => ?_)
        · obtain ⟨v32, hv32, h⟩ := mBN_some h
          refine LX4_areWithin hv32 R sl3A rfl (by rw [show gEntry_size S (α l1A) = V.fI l1A 1 from (mg_I (i := l1A) R (mO3 sl1A) rfl 1)]) rfl ?_
          refine mIf h Iff.rfl (fun c10 h => ?_) (fun c10 h => ?_)
          · cases h
            exact k
          · refine mGd h (by rw [show S.len (α l3A) = mLen l3A from (mg_len R (mA13 sl3A) rfl)]) (fun c11 h => ?_)
            obtain ⟨v39, hv39, h⟩ := mBN_some h
            refine LX4_isWithin hv39 (by rw [show S.rI (α l3A) ((4 : Int32)).toNatClampNeg = V.rI l3A ((4 : Int32)).toNatClampNeg from (mg_rI (i := l3A) R (mA13 sl3A) rfl rfl)]) rfl rfl ?_
            refine mIf h Iff.rfl (fun c12 h => ?_) (fun c12 h => ?_)
            · cases h
              exact k
            · cases h
              exact k
        · refine mIf h (by rw [show gEntry_kind S (α l1A) = V.fI l1A 0 from (mg_I (i := l1A) R (mO3 sl1A) rfl 0)]) (fun c13 h => ?_) (fun c13 h => ?_)
          · obtain ⟨v46, hv46, h⟩ := mBN_some h
            refine LX4_areWithin hv46 R sl3A rfl rfl (by rw [show gEntry_size S (α l1A) = V.fI l1A 1 from (mg_I (i := l1A) R (mO3 sl1A) rfl 1)]) ?_
            refine mIf h Iff.rfl (fun c14 h => ?_) (fun c14 h => ?_)
            · cases h
              exact k
            · refine mGd h (by rw [show S.len (α l3A) = mLen l3A from (mg_len R (mA13 sl3A) rfl)]) (fun c15 h => ?_)
              refine mIf h (by rw [show S.rI (α l3A) ((0 : Int32)).toNatClampNeg = V.rI l3A ((0 : Int32)).toNatClampNeg from (mg_rI (i := l3A) R (mA13 sl3A) rfl rfl)]) (fun c16 h => ?_) (fun c16 h => ?_)
              · refine mGd h (by rw [show S.len (α l3A) = mLen l3A from (mg_len R (mA13 sl3A) rfl)]) (fun c17 h => ?_)
                refine mIf h (by rw [show S.rI (α l3A) ((1 : Int32)).toNatClampNeg = V.rI l3A ((1 : Int32)).toNatClampNeg from (mg_rI (i := l3A) R (mA13 sl3A) rfl rfl)]) (fun c18 h => ?_) (fun c18 h => ?_)
                · refine mGd h (by rw [show S.len (α l3A) = mLen l3A from (mg_len R (mA13 sl3A) rfl)]) (fun c19 h => ?_)
                  refine mIf h (by rw [show S.rI (α l3A) ((2 : Int32)).toNatClampNeg = V.rI l3A ((2 : Int32)).toNatClampNeg from (mg_rI (i := l3A) R (mA13 sl3A) rfl rfl)]) (fun c20 h => ?_) (fun c20 h => ?_)
                  · cases h
                    exact k
                  · cases h
                    exact k
                · cases h
                  exact k
              · cases h
                exact k
          · refine mIf h (by rw [show gEntry_kind S (α l1A) = V.fI l1A 0 from (mg_I (i := l1A) R (mO3 sl1A) rfl 0)]) (fun c21 h => ?_) (fun c21 h => ?_)
            · obtain ⟨v59, hv59, h⟩ := mBN_some h
              refine LX4_areWithin hv59 R sl3A rfl (by rw [show gEntry_size S (α l1A) = V.fI l1A 1 from (mg_I (i := l1A) R (mO3 sl1A) rfl 1)]) rfl ?_
              refine mIf h Iff.rfl (fun c22 h => ?_) (fun c22 h => ?_)
              · cases h
                exact k
              · refine mGd h (by rw [show S.len (α l3A) = mLen l3A from (mg_len R (mA13 sl3A) rfl)]) (fun c23 h => ?_)
                obtain ⟨v66, hv66, h⟩ := mBN_some h
                refine LX4_isWithin hv66 (by rw [show S.rI (α l3A) ((4 : Int32)).toNatClampNeg = V.rI l3A ((4 : Int32)).toNatClampNeg from (mg_rI (i := l3A) R (mA13 sl3A) rfl rfl)]) rfl rfl ?_
                refine mIf h Iff.rfl (fun c24 h => ?_) (fun c24 h => ?_)
                · cases h
                  exact k
                · cases h
                  exact k
            · refine mIf h (by rw [show gEntry_kind S (α l1A) = V.fI l1A 0 from (mg_I (i := l1A) R (mO3 sl1A) rfl 0)]) (fun c25 h => ?_) (fun c25 h => ?_)
              · cases h
                exact k
              · refine mIf h (by rw [show gEntry_kind S (α l1A) = V.fI l1A 0 from (mg_I (i := l1A) R (mO3 sl1A) rfl 0)]) (fun c26 h => ?_) (fun c26 h => ?_)
                · obtain ⟨v74, hv74, h⟩ := mBN_some h
                  refine LX4_areWithin hv74 R sl3A rfl rfl rfl ?_
                  refine mGp h Iff.rfl (fun c27 h => ?_)
                  cases h
                  exact k
                · refine mIf h (by rw [show gEntry_kind S (α l1A) = V.fI l1A 0 from (mg_I (i := l1A) R (mO3 sl1A) rfl 0)]) (fun c28 h => ?_) (fun c28 h => ?_)
                  · obtain ⟨v81, hv81, h⟩ := mBN_some h
                    refine LX4_areUnlikePoints hv81 R sl3A rfl rfl ?_
                    refine mGp h Iff.rfl (fun c29 h => ?_)
                    cases h
                    exact k
                  · refine mIf h (by rw [show gEntry_kind S (α l1A) = V.fI l1A 0 from (mg_I (i := l1A) R (mO3 sl1A) rfl 0)]) (fun c30 h => ?_) (fun c30 h => ?_)
                    · refine mIf h Iff.rfl (fun c31 h => ?_) (fun c31 h => ?_)
                      · obtain ⟨v95, hv95, h⟩ := mBN_some h
                        refine LX4_areWords hv95 R sl3A rfl rfl ?_
                        refine mGp h Iff.rfl (fun c32 h => ?_)
                        cases h
                        exact k
                      · obtain ⟨v89, hv89, h⟩ := mBN_some h
                        refine LX4_areWords hv89 R sl3A rfl rfl ?_
                        refine mGp h Iff.rfl (fun c33 h => ?_)
                        cases h
                        exact k
                    · refine mIf h (by rw [show gEntry_kind S (α l1A) = V.fI l1A 0 from (mg_I (i := l1A) R (mO3 sl1A) rfl 0)]) (fun c34 h => ?_) (fun c34 h => ?_)
                      · refine mGd h (by rw [show S.len (α l3A) = mLen l3A from (mg_len R (mA13 sl3A) rfl)]) (fun c35 h => ?_)
                        obtain ⟨v103, hv103, h⟩ := mBN_some h
                        refine LX4_isWithin hv103 (by rw [show S.rI (α l3A) ((0 : Int32)).toNatClampNeg = V.rI l3A ((0 : Int32)).toNatClampNeg from (mg_rI (i := l3A) R (mA13 sl3A) rfl rfl)]) rfl rfl ?_
                        refine mIf h Iff.rfl (fun c36 h => ?_) (fun c36 h => ?_)
                        · cases h
                          exact k
                        · refine mGd h (by rw [show S.len (α l3A) = mLen l3A from (mg_len R (mA13 sl3A) rfl)]) (fun c37 h => ?_)
                          obtain ⟨v110, hv110, h⟩ := mBN_some h
                          refine LX4_isWithin hv110 (by rw [show S.rI (α l3A) ((1 : Int32)).toNatClampNeg = V.rI l3A ((1 : Int32)).toNatClampNeg from (mg_rI (i := l3A) R (mA13 sl3A) rfl rfl)]) rfl rfl ?_
                          refine mIf h Iff.rfl (fun c38 h => ?_) (fun c38 h => ?_)
                          · cases h
                            exact k
                          · refine mGd h (by rw [show S.len (α l3A) = mLen l3A from (mg_len R (mA13 sl3A) rfl)]) (fun c39 h => ?_)
                            obtain ⟨v117, hv117, h⟩ := mBN_some h
                            refine LX4_isWithin hv117 (by rw [show S.rI (α l3A) ((2 : Int32)).toNatClampNeg = V.rI l3A ((2 : Int32)).toNatClampNeg from (mg_rI (i := l3A) R (mA13 sl3A) rfl rfl)]) rfl rfl ?_
                            refine mIf h Iff.rfl (fun c40 h => ?_) (fun c40 h => ?_)
                            · cases h
                              exact k
                            · cases h
                              exact k
                      · obtain ⟨v123, hv123, h⟩ := mBN_some h
                        refine LX4_isGameItem hv123 R sl3A rfl rfl ?_
                        refine mGp h Iff.rfl (fun c41 h => ?_)
                        cases h
                        exact k
def mX4_leftSide_b0 (F : Nat) (rec : Nat → Nat → Int32 → Int32 → Int32 → Int32 → mV → Option (Int32 × mV)) (l1A : Nat) (l2I : Int32) (l3I : Int32) (l4I : Int32) (V : mV) : Option (Int32 × mV) :=
  (if (V.fI l1A 1) ≤ l4I then (if (l2I &&& l3I) = 0 then some (l2I, V) else some ((-1 : Int32), V)) else (mBN (mX11_has F ((l2I ||| l3I)) (l4I)) fun v3 => (if v3 = 0 then (mLt (l2I ||| ((1 : Int32) <<< (l4I &&& 31))) fun x9 => (rec 1 l1A (x9) (l3I) (l4I) ((0 : Int32)) V)) else (rec 1 l1A (l2I) (l3I) (l4I) ((0 : Int32)) V))))
def mX4_leftSide_b1 (F : Nat) (rec : Nat → Nat → Int32 → Int32 → Int32 → Int32 → mV → Option (Int32 × mV)) (l1A : Nat) (l2I : Int32) (l3I : Int32) (l4I : Int32) (l5I : Int32) (V : mV) : Option (Int32 × mV) :=
  (if (V.fI l1A 1) ≤ l5I then (mLt (l4I + (1 : Int32)) fun x11 => (rec 0 l1A (l2I) (l3I) (x11) 0 V)) else (mBN (mX4_neighboursOf F (l2I) V) fun v12 => (mLt (l3I ||| v12) fun x17 => (mBN (mX4_neighboursOf F (x17) V) fun v18 => (mLt (l2I ||| v18) fun x23 => (mLt (l5I + (1 : Int32)) fun x24 => (rec 1 l1A (x23) (x17) (l4I) (x24) V)))))))
def mX4_leftSide_go (F : Nat) : Nat → Nat → Nat → Int32 → Int32 → Int32 → Int32 → mV → Option (Int32 × mV)
  | 0, _, _, _, _, _, _, _ => none
  | k' + 1, lab, l1A, l2I, l3I, l4I, l5I, V => if lab = 0 then mX4_leftSide_b0 F (mX4_leftSide_go F k') l1A l2I l3I l4I V else if lab = 1 then mX4_leftSide_b1 F (mX4_leftSide_go F k') l1A l2I l3I l4I l5I V else none
def mX4_leftSide_s (F : Nat) (rec : Nat → Nat → Int32 → Int32 → Int32 → Int32 → mV → Option (Int32 × mV)) (l1A : Nat) (V : mV) : Option (Int32 × mV) :=
  (mBW (mX3_fillNear F l1A 18 ((-1 : Int32)) V) fun v25 V26 => (rec 0 l1A ((0 : Int32)) ((0 : Int32)) ((0 : Int32)) 0 V26))
def mX4_leftSide (F : Nat) (l1A : Nat) (V : mV) : Option (Int32 × mV) := mX4_leftSide_s F (mX4_leftSide_go F F) l1A V
set_option maxHeartbeats 4000000 in
set_option maxRecDepth 100000 in
theorem LX4_leftSide_go {α : Nat → Nat} {F : Nat} {Ln : Nat → Nat} {v : Int32} {V1 : mV} {Φ : (Int32 → wPS → Prop)} : ∀ k' : Nat, (∀ (l1A : Nat) (l2I : Int32) (l3I : Int32) (l4I : Int32) (S : wPS) (V : mV) , mRel α S Ln V → mK l1A = 3 → mX4_leftSide_go F k' 0 l1A l2I l3I l4I 0 V = some (v, V1) → (∀ S1, mRel α S1 Ln V1 → mFr α S S1 → Φ v S1) → rX4_leftSide_go F k' 0 (α 1) (α l1A) l2I l3I l4I 0 S Φ) ∧ (∀ (l1A : Nat) (l2I : Int32) (l3I : Int32) (l4I : Int32) (l5I : Int32) (S : wPS) (V : mV) , mRel α S Ln V → mK l1A = 3 → mX4_leftSide_go F k' 1 l1A l2I l3I l4I l5I V = some (v, V1) → (∀ S1, mRel α S1 Ln V1 → mFr α S S1 → Φ v S1) → rX4_leftSide_go F k' 1 (α 1) (α l1A) l2I l3I l4I l5I S Φ) := by
  intro k'
  induction k' with
  | zero => exact ⟨(fun _ _ _ _ _ _ _ _ h _ => by cases h), (fun _ _ _ _ _ _ _ _ _ h _ => by cases h)⟩
  | succ k' ih =>
    refine ⟨?_, ?_⟩
    · intro l1A l2I l3I l4I S V R sl1A h k
      rw [mX4_leftSide_go, if_pos rfl] at h
      rw [rX4_leftSide_go, if_pos rfl]
      unfold mX4_leftSide_b0 at h
      unfold rX4_leftSide_b0
      refine mIf h (by rw [show gEntry_size S (α l1A) = V.fI l1A 1 from (mg_I (i := l1A) R (mO3 sl1A) rfl 1)]) (fun c1 h => ?_) (fun c1 h => ?_)
      · refine mIf h Iff.rfl (fun c2 h => ?_) (fun c2 h => ?_)
        · obtain ⟨rfl, rfl⟩ := mRW h
          exact k _ R mFr.rf
        · obtain ⟨rfl, rfl⟩ := mRW h
          exact k _ R mFr.rf
      · obtain ⟨v3, hv3, h⟩ := mBN_some h
        refine LX11_has hv3 rfl rfl ?_
        refine mIf h Iff.rfl (fun c3 h => ?_) (fun c3 h => ?_)
        · refine mLet h rfl (fun x9 ex9 h => ?_)
          exact ih.2 _ _ _ _ _ _ _ R sl1A h (fun S1 R1 F1 => k S1 R1 F1)
        · exact ih.2 _ _ _ _ _ _ _ R sl1A h (fun S1 R1 F1 => k S1 R1 F1)
    · intro l1A l2I l3I l4I l5I S V R sl1A h k
      rw [mX4_leftSide_go, if_neg (by decide), if_pos rfl] at h
      rw [rX4_leftSide_go, if_neg (by decide), if_pos rfl]
      unfold mX4_leftSide_b1 at h
      unfold rX4_leftSide_b1
      refine mIf h (by rw [show gEntry_size S (α l1A) = V.fI l1A 1 from (mg_I (i := l1A) R (mO3 sl1A) rfl 1)]) (fun c4 h => ?_) (fun c4 h => ?_)
      · refine mLet h rfl (fun x11 ex11 h => ?_)
        exact ih.1 _ _ _ _ _ _ R sl1A h (fun S1 R1 F1 => k S1 R1 F1)
      · obtain ⟨v12, hv12, h⟩ := mBN_some h
        refine LX4_neighboursOf hv12 R rfl rfl ?_
        refine mLet h rfl (fun x17 ex17 h => ?_)
        obtain ⟨v18, hv18, h⟩ := mBN_some h
        refine LX4_neighboursOf hv18 R rfl rfl ?_
        refine mLet h rfl (fun x23 ex23 h => ?_)
        refine mLet h rfl (fun x24 ex24 h => ?_)
        exact ih.2 _ _ _ _ _ _ _ R sl1A h (fun S1 R1 F1 => k S1 R1 F1)
set_option maxHeartbeats 4000000 in
set_option maxRecDepth 100000 in
theorem LX4_leftSide {α : Nat → Nat} {F : Nat} {S : wPS} {Ln : Nat → Nat} {V V1 : mV} {v : Int32} {Φ : (Int32 → wPS → Prop)} {l0Ax : Nat} {l1Ax : Nat} {l1A : Nat} (h : mX4_leftSide F l1A V = some (v, V1)) (R : mRel α S Ln V) (sl1A : mK l1A = 3) (el0A : l0Ax = α 1) (el1A : l1Ax = α l1A) (k : (∀ S1, mRel α S1 Ln V1 → mFr α S S1 → Φ v S1)) : rX4_leftSide F l0Ax l1Ax S Φ := by
  have el0A := el0A.symm
  subst el0A
  have el1A := el1A.symm
  subst el1A
  have ih := LX4_leftSide_go  (α := α) (F := F) (v := v) (Ln := Ln) (Φ := Φ) (V1 := V1) F
  unfold mX4_leftSide mX4_leftSide_s at h
  unfold rX4_leftSide rX4_leftSide_s
  obtain ⟨v25, V26, hv25, h⟩ := mBW_some h
  refine LX3_fillNear hv25 R sl1A rfl rfl (mg_A (t := 18) R rfl rfl) rfl (fun S26 R26 F26 => ?_)
  exact ih.1 _ _ _ _ _ _ R26 sl1A h (fun S1 R1 F1 => k S1 R1 (F26.tr F1))
end
