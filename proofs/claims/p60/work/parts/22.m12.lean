/-! LIFTED BY PROGRAM (lift.py): X7_countPairs, X7_partnerOf, X7_letterOf, X7_judgePairing, X7_judgeNodes, X7_reachBy. -/
section
def mX7_countPairs_b0 (F : Nat) (rec : Nat → Nat → Int32 → Int32 → Int32 → Int32 → Int32 → mV → Option (Unit × mV)) (l1A : Nat) (l2I : Int32) (V : mV) : Option (Unit × mV) :=
  (if ((1 : Int32) <<< ((V.fI l1A 1) &&& 31)) ≤ l2I then some ((), V) else (if (Int32.ofNat (512)) ≤ l2I then some ((), V) else (mBN (mX11_lowest F (l2I)) fun v3 => (mLt (l2I &&& (((1 : Int32) <<< (v3 &&& 31)) ^^^ (-1 : Int32))) fun x8 => (if x8 < 0 ∨ 512 ≤ (x8).toNatClampNeg then none else (mLt (V.rI 20 (x8).toNatClampNeg) fun x10 => (mLt (v3 + (1 : Int32)) fun x11 => (rec 1 l1A (l2I) (v3) (x8) (x10) (x11) V))))))))
def mX7_countPairs_b1 (F : Nat) (rec : Nat → Nat → Int32 → Int32 → Int32 → Int32 → Int32 → mV → Option (Unit × mV)) (l1A : Nat) (l2I : Int32) (l3I : Int32) (l4I : Int32) (l5I : Int32) (l6I : Int32) (V : mV) : Option (Unit × mV) :=
  (if (V.fI l1A 1) ≤ l6I then (if l2I < 0 ∨ 512 ≤ (l2I).toNatClampNeg then none else (mLt (mI V 20 (l2I) (l5I)) fun V14 => (mLt (l2I + (1 : Int32)) fun x15 => (rec 0 l1A (x15) 0 0 0 0 V14)))) else (if l3I < 0 ∨ 9 ≤ (l3I).toNatClampNeg then none else (mBN (mX11_has F ((l4I &&& (V.rI 19 (l3I).toNatClampNeg))) (l6I)) fun v17 => (if v17 = 0 then (mLt (l6I + (1 : Int32)) fun x23 => (rec 1 l1A (l2I) (l3I) (l4I) (l5I) (x23) V)) else (if (l4I &&& (((1 : Int32) <<< (l6I &&& 31)) ^^^ (-1 : Int32))) < 0 ∨ 512 ≤ ((l4I &&& (((1 : Int32) <<< (l6I &&& 31)) ^^^ (-1 : Int32)))).toNatClampNeg then none else (mLt (if l5I < ((1 : Int32) + (V.rI 20 ((l4I &&& (((1 : Int32) <<< (l6I &&& 31)) ^^^ (-1 : Int32)))).toNatClampNeg)) then ((1 : Int32) + (V.rI 20 ((l4I &&& (((1 : Int32) <<< (l6I &&& 31)) ^^^ (-1 : Int32)))).toNatClampNeg)) else l5I) fun x25 => (mLt (l6I + (1 : Int32)) fun x26 => (rec 1 l1A (l2I) (l3I) (l4I) (x25) (x26) V))))))))
def mX7_countPairs_go (F : Nat) : Nat → Nat → Nat → Int32 → Int32 → Int32 → Int32 → Int32 → mV → Option (Unit × mV)
  | 0, _, _, _, _, _, _, _, _ => none
  | k' + 1, lab, l1A, l2I, l3I, l4I, l5I, l6I, V => if lab = 0 then mX7_countPairs_b0 F (mX7_countPairs_go F k') l1A l2I V else if lab = 1 then mX7_countPairs_b1 F (mX7_countPairs_go F k') l1A l2I l3I l4I l5I l6I V else none
def mX7_countPairs_s (F : Nat) (rec : Nat → Nat → Int32 → Int32 → Int32 → Int32 → Int32 → mV → Option (Unit × mV)) (l1A : Nat) (V : mV) : Option (Unit × mV) :=
  (mBW (mX3_fillNear F l1A 19 ((-1 : Int32)) V) fun v27 V28 => (if (0 : Int32) < 0 ∨ 512 ≤ ((0 : Int32)).toNatClampNeg then none else (mLt (mI V28 20 ((0 : Int32)) ((0 : Int32))) fun V33 => (rec 0 l1A ((1 : Int32)) 0 0 0 0 V33))))
def mX7_countPairs (F : Nat) (l1A : Nat) (V : mV) : Option (Unit × mV) := mX7_countPairs_s F (mX7_countPairs_go F F) l1A V
set_option maxHeartbeats 4000000 in
set_option maxRecDepth 100000 in
theorem LX7_countPairs_go {α : Nat → Nat} {F : Nat} {Ln : Nat → Nat} {v : Unit} {V1 : mV} {Φ : (Unit → wPS → Prop)} : ∀ k' : Nat, (∀ (l1A : Nat) (l2I : Int32) (S : wPS) (V : mV) , mRel α S Ln V → mK l1A = 3 → mX7_countPairs_go F k' 0 l1A l2I 0 0 0 0 V = some (v, V1) → (∀ S1, mRel α S1 Ln V1 → mFr α S S1 → Φ v S1) → rX7_countPairs_go F k' 0 (α 2) (α l1A) l2I 0 0 0 0 S Φ) ∧ (∀ (l1A : Nat) (l2I : Int32) (l3I : Int32) (l4I : Int32) (l5I : Int32) (l6I : Int32) (S : wPS) (V : mV) , mRel α S Ln V → mK l1A = 3 → mX7_countPairs_go F k' 1 l1A l2I l3I l4I l5I l6I V = some (v, V1) → (∀ S1, mRel α S1 Ln V1 → mFr α S S1 → Φ v S1) → rX7_countPairs_go F k' 1 (α 2) (α l1A) l2I l3I l4I l5I l6I S Φ) := by
  intro k'
  induction k' with
  | zero => exact ⟨(fun _ _ _ _ _ _ h _ => by cases h), (fun _ _ _ _ _ _ _ _ _ _ h _ => by cases h)⟩
  | succ k' ih =>
    refine ⟨?_, ?_⟩
    · intro l1A l2I S V R sl1A h k
      rw [mX7_countPairs_go, if_pos rfl] at h
      rw [rX7_countPairs_go, if_pos rfl]
      unfold mX7_countPairs_b0 at h
      unfold rX7_countPairs_b0
      refine mIf h (by rw [show gEntry_size S (α l1A) = V.fI l1A 1 from (mg_I (i := l1A) R (mO3 sl1A) rfl 1)]) (fun c1 h => ?_) (fun c1 h => ?_)
      · obtain ⟨rfl, rfl⟩ := mRW h
        exact k _ R mFr.rf
      · refine mIf h (by rw [show S.len (wkAd (gNetworks_best S (α 2))) = 512 from (mg_len (i := 20) R (mA13 rfl) (mg_A (t := 20) R rfl rfl))]) (fun c2 h => ?_) (fun c2 h => ?_)
        · obtain ⟨rfl, rfl⟩ := mRW h
          exact k _ R mFr.rf
        · obtain ⟨v3, hv3, h⟩ := mBN_some h
          refine LX11_lowest hv3 rfl ?_
          refine mLet h rfl (fun x8 ex8 h => ?_)
          refine mGd h (by rw [show S.len (wkAd (gNetworks_best S (α 2))) = 512 from (mg_len (i := 20) R (mA13 rfl) (mg_A (t := 20) R rfl rfl))]) (fun c3 h => ?_)
          refine mLet h (by rw [show S.rI (wkAd (gNetworks_best S (α 2))) (x8).toNatClampNeg = V.rI 20 (x8).toNatClampNeg from (mg_rI (i := 20) R (mA13 rfl) (mg_A (t := 20) R rfl rfl) rfl)]) (fun x10 ex10 h => ?_)
          refine mLet h rfl (fun x11 ex11 h => ?_)
          exact ih.2 _ _ _ _ _ _ _ _ R sl1A h (fun S1 R1 F1 => k S1 R1 F1)
    · intro l1A l2I l3I l4I l5I l6I S V R sl1A h k
      rw [mX7_countPairs_go, if_neg (by decide), if_pos rfl] at h
      rw [rX7_countPairs_go, if_neg (by decide), if_pos rfl]
      unfold mX7_countPairs_b1 at h
      unfold rX7_countPairs_b1
      refine mIf h (by rw [show gEntry_size S (α l1A) = V.fI l1A 1 from (mg_I (i := l1A) R (mO3 sl1A) rfl 1)]) (fun c4 h => ?_) (fun c4 h => ?_)
      · refine mGd h (by rw [show S.len (wkAd (gNetworks_best S (α 2))) = 512 from (mg_len (i := 20) R (mA13 rfl) (mg_A (t := 20) R rfl rfl))]) (fun c5 h => ?_)
        obtain ⟨V14, eV14, h⟩ := mLt_some h
        refine mU_I eV14 R (mA13 rfl) (mg_A (t := 20) R rfl rfl) rfl rfl (fun S14 R14 F14 => ?_)
        refine mLet h rfl (fun x15 ex15 h => ?_)
        exact ih.1 _ _ _ _ R14 sl1A h (fun S1 R1 F1 => k S1 R1 (F14.tr F1))
      · refine mGd h (by rw [show S.len (wkAd (gNetworks_near S (α 2))) = 9 from (mg_len (i := 19) R (mA13 rfl) (mg_A (t := 19) R rfl rfl))]) (fun c6 h => ?_)
        obtain ⟨v17, hv17, h⟩ := mBN_some h
        refine LX11_has hv17 (by rw [show S.rI (wkAd (gNetworks_near S (α 2))) (l3I).toNatClampNeg = V.rI 19 (l3I).toNatClampNeg from (mg_rI (i := 19) R (mA13 rfl) (mg_A (t := 19) R rfl rfl) rfl)]) rfl ?_
        refine mIf h Iff.rfl (fun c7 h => ?_) (fun c7 h => ?_)
        · refine mLet h rfl (fun x23 ex23 h => ?_)
          exact ih.2 _ _ _ _ _ _ _ _ R sl1A h (fun S1 R1 F1 => k S1 R1 F1)
        · refine mGd h (by rw [show S.len (wkAd (gNetworks_best S (α 2))) = 512 from (mg_len (i := 20) R (mA13 rfl) (mg_A (t := 20) R rfl rfl))]) (fun c8 h => ?_)
          refine mLet h (by rw [show S.rI (wkAd (gNetworks_best S (α 2))) ((l4I &&& (((1 : Int32) <<< (l6I &&& 31)) ^^^ (-1 : Int32)))).toNatClampNeg = V.rI 20 ((l4I &&& (((1 : Int32) <<< (l6I &&& 31)) ^^^ (-1 : Int32)))).toNatClampNeg from (mg_rI (i := 20) R (mA13 rfl) (mg_A (t := 20) R rfl rfl) rfl)]) (fun x25 ex25 h => ?_)
          refine mLet h rfl (fun x26 ex26 h => ?_)
          exact ih.2 _ _ _ _ _ _ _ _ R sl1A h (fun S1 R1 F1 => k S1 R1 F1)
set_option maxHeartbeats 4000000 in
set_option maxRecDepth 100000 in
theorem LX7_countPairs {α : Nat → Nat} {F : Nat} {S : wPS} {Ln : Nat → Nat} {V V1 : mV} {v : Unit} {Φ : (Unit → wPS → Prop)} {l0Ax : Nat} {l1Ax : Nat} {l1A : Nat} (h : mX7_countPairs F l1A V = some (v, V1)) (R : mRel α S Ln V) (sl1A : mK l1A = 3) (el0A : l0Ax = α 2) (el1A : l1Ax = α l1A) (k : (∀ S1, mRel α S1 Ln V1 → mFr α S S1 → Φ v S1)) : rX7_countPairs F l0Ax l1Ax S Φ := by
  have el0A := el0A.symm
  subst el0A
  have el1A := el1A.symm
  subst el1A
  have ih := LX7_countPairs_go  (α := α) (F := F) (v := v) (Ln := Ln) (Φ := Φ) (V1 := V1) F
  unfold mX7_countPairs mX7_countPairs_s at h
  unfold rX7_countPairs rX7_countPairs_s
  obtain ⟨v27, V28, hv27, h⟩ := mBW_some h
  refine LX3_fillNear hv27 R sl1A rfl rfl (mg_A (t := 19) R rfl rfl) rfl (fun S28 R28 F28 => ?_)
  refine mGd h (by rw [show S28.len (wkAd (gNetworks_best S28 (α 2))) = 512 from (mg_len (i := 20) R28 (mA13 rfl) (mg_A (t := 20) R28 rfl rfl))]) (fun c9 h => ?_)
  obtain ⟨V33, eV33, h⟩ := mLt_some h
  refine mU_I eV33 R28 (mA13 rfl) (mg_A (t := 20) R28 rfl rfl) rfl rfl (fun S33 R33 F33 => ?_)
  exact ih.1 _ _ _ _ R33 sl1A h (fun S1 R1 F1 => k S1 R1 (F28.tr (F33.tr F1)))
def mX7_partnerOf_b0 (F : Nat) (rec : Nat → Int32 → Int32 → Int32 → Int32 → Int32 → mV → Option Int32) (l1I : Int32) (l2I : Int32) (l3I : Int32) (l4I : Int32) (l5I : Int32) (V : mV) : Option Int32 :=
  (if l3I ≤ l5I then some (l1I) else (if l1I < 0 ∨ 9 ≤ (l1I).toNatClampNeg then none else (mBN (mX11_has F ((l4I &&& (V.rI 19 (l1I).toNatClampNeg))) (l5I)) fun v3 => (if v3 = 0 then (mLt (l5I + (1 : Int32)) fun x9 => (rec 0 (l1I) (l2I) (l3I) (l4I) (x9) V)) else (if (l4I &&& (((1 : Int32) <<< (l5I &&& 31)) ^^^ (-1 : Int32))) < 0 ∨ 512 ≤ ((l4I &&& (((1 : Int32) <<< (l5I &&& 31)) ^^^ (-1 : Int32)))).toNatClampNeg then none else (if l2I < 0 ∨ 512 ≤ (l2I).toNatClampNeg then none else (if ((V.rI 20 ((l4I &&& (((1 : Int32) <<< (l5I &&& 31)) ^^^ (-1 : Int32)))).toNatClampNeg) + (1 : Int32)) = (V.rI 20 (l2I).toNatClampNeg) then some (l5I) else (mLt (l5I + (1 : Int32)) fun x13 => (rec 0 (l1I) (l2I) (l3I) (l4I) (x13) V)))))))))
def mX7_partnerOf_go (F : Nat) : Nat → Nat → Int32 → Int32 → Int32 → Int32 → Int32 → mV → Option Int32
  | 0, _, _, _, _, _, _, _ => none
  | k' + 1, lab, l1I, l2I, l3I, l4I, l5I, V => if lab = 0 then mX7_partnerOf_b0 F (mX7_partnerOf_go F k') l1I l2I l3I l4I l5I V else none
def mX7_partnerOf_s (F : Nat) (rec : Nat → Int32 → Int32 → Int32 → Int32 → Int32 → mV → Option Int32) (l1I : Int32) (l2I : Int32) (l3I : Int32) (V : mV) : Option Int32 :=
  (mLt (l2I &&& (((1 : Int32) <<< (l1I &&& 31)) ^^^ (-1 : Int32))) fun x14 => (if x14 < 0 ∨ 512 ≤ (x14).toNatClampNeg then none else (if l2I < 0 ∨ 512 ≤ (l2I).toNatClampNeg then none else (if (V.rI 20 (x14).toNatClampNeg) = (V.rI 20 (l2I).toNatClampNeg) then some (l1I) else (mLt (l1I + (1 : Int32)) fun x18 => (rec 0 (l1I) (l2I) (l3I) (x14) (x18) V))))))
def mX7_partnerOf (F : Nat) (l1I : Int32) (l2I : Int32) (l3I : Int32) (V : mV) : Option Int32 := mX7_partnerOf_s F (mX7_partnerOf_go F F) l1I l2I l3I V
set_option maxHeartbeats 4000000 in
set_option maxRecDepth 100000 in
theorem LX7_partnerOf_go {α : Nat → Nat} {F : Nat} {Ln : Nat → Nat} {v : Int32} {Φ : (Int32 → wPS → Prop)} : ∀ k' : Nat, (∀ (l1I : Int32) (l2I : Int32) (l3I : Int32) (l4I : Int32) (l5I : Int32) (S : wPS) (V : mV) , mRel α S Ln V → mX7_partnerOf_go F k' 0 l1I l2I l3I l4I l5I V = some v → (Φ v S) → rX7_partnerOf_go F k' 0 (α 2) l1I l2I l3I l4I l5I S Φ) := by
  intro k'
  induction k' with
  | zero => exact (fun _ _ _ _ _ _ _ _ h _ => by cases h)
  | succ k' ih =>
    intro l1I l2I l3I l4I l5I S V R h k
    rw [mX7_partnerOf_go, if_pos rfl] at h
    rw [rX7_partnerOf_go, if_pos rfl]
    unfold mX7_partnerOf_b0 at h
    unfold rX7_partnerOf_b0
    refine mIf h Iff.rfl (fun c1 h => ?_) (fun c1 h => ?_)
    · cases h
      exact k
    · refine mGd h (by rw [show S.len (wkAd (gNetworks_near S (α 2))) = 9 from (mg_len (i := 19) R (mA13 rfl) (mg_A (t := 19) R rfl rfl))]) (fun c2 h => ?_)
      obtain ⟨v3, hv3, h⟩ := mBN_some h
      refine LX11_has hv3 (by rw [show S.rI (wkAd (gNetworks_near S (α 2))) (l1I).toNatClampNeg = V.rI 19 (l1I).toNatClampNeg from (mg_rI (i := 19) R (mA13 rfl) (mg_A (t := 19) R rfl rfl) rfl)]) rfl ?_
      refine mIf h Iff.rfl (fun c3 h => ?_) (fun c3 h => ?_)
      · refine mLet h rfl (fun x9 ex9 h => ?_)
        exact ih _ _ _ _ _ _ _ R h k
      · refine mGd h (by rw [show S.len (wkAd (gNetworks_best S (α 2))) = 512 from (mg_len (i := 20) R (mA13 rfl) (mg_A (t := 20) R rfl rfl))]) (fun c4 h => ?_)
        refine mGd h (by rw [show S.len (wkAd (gNetworks_best S (α 2))) = 512 from (mg_len (i := 20) R (mA13 rfl) (mg_A (t := 20) R rfl rfl))]) (fun c5 h => ?_)
        refine mIf h (by rw [show S.rI (wkAd (gNetworks_best S (α 2))) ((l4I &&& (((1 : Int32) <<< (l5I &&& 31)) ^^^ (-1 : Int32)))).toNatClampNeg = V.rI 20 ((l4I &&& (((1 : Int32) <<< (l5I &&& 31)) ^^^ (-1 : Int32)))).toNatClampNeg from (mg_rI (i := 20) R (mA13 rfl) (mg_A (t := 20) R rfl rfl) rfl), show S.rI (wkAd (gNetworks_best S (α 2))) (l2I).toNatClampNeg = V.rI 20 (l2I).toNatClampNeg from (mg_rI (i := 20) R (mA13 rfl) (mg_A (t := 20) R rfl rfl) rfl)]) (fun c6 h => ?_) (fun c6 h => ?_)
        · cases h
          exact k
        · refine mLet h rfl (fun x13 ex13 h => ?_)
          exact ih _ _ _ _ _ _ _ R h k
set_option maxHeartbeats 4000000 in
set_option maxRecDepth 100000 in
theorem LX7_partnerOf {α : Nat → Nat} {F : Nat} {S : wPS} {Ln : Nat → Nat} {V : mV} {v : Int32} {Φ : (Int32 → wPS → Prop)} {l0Ax : Nat} {l1Ix l1I : Int32} {l2Ix l2I : Int32} {l3Ix l3I : Int32} (h : mX7_partnerOf F l1I l2I l3I V = some v) (R : mRel α S Ln V) (el0A : l0Ax = α 2) (el1I : l1Ix = l1I) (el2I : l2Ix = l2I) (el3I : l3Ix = l3I) (k : (Φ v S)) : rX7_partnerOf F l0Ax l1Ix l2Ix l3Ix S Φ := by
  have el0A := el0A.symm
  subst el0A
  have el1I := el1I.symm
  subst el1I
  have el2I := el2I.symm
  subst el2I
  have el3I := el3I.symm
  subst el3I
  have ih := LX7_partnerOf_go  (α := α) (F := F) (v := v) (Ln := Ln) (Φ := Φ) F
  unfold mX7_partnerOf mX7_partnerOf_s at h
  unfold rX7_partnerOf rX7_partnerOf_s
  refine mLet h rfl (fun x14 ex14 h => ?_)
  refine mGd h (by rw [show S.len (wkAd (gNetworks_best S (α 2))) = 512 from (mg_len (i := 20) R (mA13 rfl) (mg_A (t := 20) R rfl rfl))]) (fun c7 h => ?_)
  refine mGd h (by rw [show S.len (wkAd (gNetworks_best S (α 2))) = 512 from (mg_len (i := 20) R (mA13 rfl) (mg_A (t := 20) R rfl rfl))]) (fun c8 h => ?_)
  refine mIf h (by rw [show S.rI (wkAd (gNetworks_best S (α 2))) (x14).toNatClampNeg = V.rI 20 (x14).toNatClampNeg from (mg_rI (i := 20) R (mA13 rfl) (mg_A (t := 20) R rfl rfl) rfl), show S.rI (wkAd (gNetworks_best S (α 2))) (l2I).toNatClampNeg = V.rI 20 (l2I).toNatClampNeg from (mg_rI (i := 20) R (mA13 rfl) (mg_A (t := 20) R rfl rfl) rfl)]) (fun c9 h => ?_) (fun c9 h => ?_)
  · cases h
    exact k
  · refine mLet h rfl (fun x18 ex18 h => ?_)
    exact ih _ _ _ _ _ _ _ R h k
def mX7_letterOf_b0 (F : Nat) (rec : Nat → Int32 → Int32 → Int32 → mV → Option Int32) (l1I : Int32) (l2I : Int32) (l3I : Int32) (V : mV) : Option Int32 :=
  (if l1I ≤ l3I then (if ¬ ((((99 : Int32) : Int32).toUInt32 % 65536).toInt32 = (99 : Int32)) then none else some ((99 : Int32))) else (if l2I < 0 ∨ 9 ≤ (l2I).toNatClampNeg then none else (mBN (mX11_has F ((V.rI 19 (l2I).toNatClampNeg)) (l3I)) fun v4 => (if v4 = 0 then (mLt (l3I + (1 : Int32)) fun x10 => (rec 0 (l1I) (l2I) (x10) V)) else (mBN (mX7_canBeAlone F (l1I) (l3I) V) fun v11 => (if v11 = 0 then (mLt (l3I + (1 : Int32)) fun x17 => (rec 0 (l1I) (l2I) (x17) V)) else (if ¬ ((((97 : Int32) : Int32).toUInt32 % 65536).toInt32 = (97 : Int32)) then none else some ((97 : Int32)))))))))
def mX7_letterOf_go (F : Nat) : Nat → Nat → Int32 → Int32 → Int32 → mV → Option Int32
  | 0, _, _, _, _, _ => none
  | k' + 1, lab, l1I, l2I, l3I, V => if lab = 0 then mX7_letterOf_b0 F (mX7_letterOf_go F k') l1I l2I l3I V else none
def mX7_letterOf_s (F : Nat) (rec : Nat → Int32 → Int32 → Int32 → mV → Option Int32) (l1I : Int32) (l2I : Int32) (V : mV) : Option Int32 :=
  (mBN (mX7_canBeAlone F (l1I) (l2I) V) fun v19 => (if v19 = 0 then (rec 0 (l1I) (l2I) ((0 : Int32)) V) else (if ¬ ((((100 : Int32) : Int32).toUInt32 % 65536).toInt32 = (100 : Int32)) then none else some ((100 : Int32)))))
def mX7_letterOf (F : Nat) (l1I : Int32) (l2I : Int32) (V : mV) : Option Int32 := mX7_letterOf_s F (mX7_letterOf_go F F) l1I l2I V
set_option maxHeartbeats 4000000 in
set_option maxRecDepth 100000 in
theorem LX7_letterOf_go {α : Nat → Nat} {F : Nat} {Ln : Nat → Nat} {v : Int32} {Φ : (Int32 → wPS → Prop)} : ∀ k' : Nat, (∀ (l1I : Int32) (l2I : Int32) (l3I : Int32) (S : wPS) (V : mV) , mRel α S Ln V → mX7_letterOf_go F k' 0 l1I l2I l3I V = some v → (Φ v S) → rX7_letterOf_go F k' 0 (α 2) l1I l2I l3I S Φ) := by
  intro k'
  induction k' with
  | zero => exact (fun _ _ _ _ _ _ h _ => by cases h)
  | succ k' ih =>
    intro l1I l2I l3I S V R h k
    rw [mX7_letterOf_go, if_pos rfl] at h
    rw [rX7_letterOf_go, if_pos rfl]
    unfold mX7_letterOf_b0 at h
    unfold rX7_letterOf_b0
    refine mIf h Iff.rfl (fun c1 h => ?_) (fun c1 h => ?_)
    · refine mGp h Iff.rfl (fun c2 h => ?_)
      cases h
      exact k
    · refine mGd h (by rw [show S.len (wkAd (gNetworks_near S (α 2))) = 9 from (mg_len (i := 19) R (mA13 rfl) (mg_A (t := 19) R rfl rfl))]) (fun c3 h => ?_)
      obtain ⟨v4, hv4, h⟩ := mBN_some h
      refine LX11_has hv4 (by rw [show S.rI (wkAd (gNetworks_near S (α 2))) (l2I).toNatClampNeg = V.rI 19 (l2I).toNatClampNeg from (mg_rI (i := 19) R (mA13 rfl) (mg_A (t := 19) R rfl rfl) rfl)]) rfl ?_
      refine mIf h Iff.rfl (fun c4 h => ?_) (fun c4 h => ?_)
      · refine mLet h rfl (fun x10 ex10 h => ?_)
        exact ih _ _ _ _ _ R h k
      · obtain ⟨v11, hv11, h⟩ := mBN_some h
        refine LX7_canBeAlone hv11 R rfl rfl rfl ?_
        refine mIf h Iff.rfl (fun c5 h => ?_) (fun c5 h => ?_)
        · refine mLet h rfl (fun x17 ex17 h => ?_)
          exact ih _ _ _ _ _ R h k
        · refine mGp h Iff.rfl (fun c6 h => ?_)
          cases h
          exact k
set_option maxHeartbeats 4000000 in
set_option maxRecDepth 100000 in
theorem LX7_letterOf {α : Nat → Nat} {F : Nat} {S : wPS} {Ln : Nat → Nat} {V : mV} {v : Int32} {Φ : (Int32 → wPS → Prop)} {l0Ax : Nat} {l1Ix l1I : Int32} {l2Ix l2I : Int32} (h : mX7_letterOf F l1I l2I V = some v) (R : mRel α S Ln V) (el0A : l0Ax = α 2) (el1I : l1Ix = l1I) (el2I : l2Ix = l2I) (k : (Φ v S)) : rX7_letterOf F l0Ax l1Ix l2Ix S Φ := by
  have el0A := el0A.symm
  subst el0A
  have el1I := el1I.symm
  subst el1I
  have el2I := el2I.symm
  subst el2I
  have ih := LX7_letterOf_go  (α := α) (F := F) (v := v) (Ln := Ln) (Φ := Φ) F
  unfold mX7_letterOf mX7_letterOf_s at h
  unfold rX7_letterOf rX7_letterOf_s
  obtain ⟨v19, hv19, h⟩ := mBN_some h
  refine LX7_canBeAlone hv19 R rfl rfl rfl ?_
  refine mIf h Iff.rfl (fun c7 h => ?_) (fun c7 h => ?_)
  · exact ih _ _ _ _ _ R h k
  · refine mGp h Iff.rfl (fun c8 h => ?_)
    cases h
    exact k
def mX7_judgePairing_b0 (F : Nat) (rec : Nat → (Nat → Nat) → Nat → Nat → Int32 → Int32 → Int32 → mV → Option (Int32 × mV)) (Ln : Nat → Nat) (l1A : Nat) (l2A : Nat) (l3I : Int32) (l4I : Int32) (l5I : Int32) (V : mV) : Option (Int32 × mV) :=
  (if l3I ≤ l5I then (rec 1 Ln l1A l2A (l3I) (l4I) ((0 : Int32)) V) else (mBN (mX9_at F Ln l2A (l5I) V) fun v2 => (mBN (mX9_at F Ln l2A (v2) V) fun v7 => (if v7 = l5I then (mLt (l5I + (1 : Int32)) fun x13 => (rec 0 Ln l1A l2A (l3I) (l4I) (x13) V)) else some ((2 : Int32), V)))))
def mX7_judgePairing_b1 (F : Nat) (rec : Nat → (Nat → Nat) → Nat → Nat → Int32 → Int32 → Int32 → mV → Option (Int32 × mV)) (Ln : Nat → Nat) (l1A : Nat) (l2A : Nat) (l3I : Int32) (l4I : Int32) (l5I : Int32) (V : mV) : Option (Int32 × mV) :=
  (if l3I ≤ l5I then (if l4I ≤ (V.fI l1A 8) then some ((0 : Int32), V) else some ((4 : Int32), V)) else (mBN (mX9_at F Ln l2A (l5I) V) fun v16 => (if v16 = l5I then (mLt (l4I + (1 : Int32)) fun x35 => (mLt (l5I + (1 : Int32)) fun x36 => (rec 1 Ln l1A l2A (l3I) (x35) (x36) V))) else (if l5I < 0 ∨ 9 ≤ (l5I).toNatClampNeg then none else (mBN (mX9_at F Ln l2A (l5I) V) fun v23 => (mBN (mX11_has F ((V.rI 19 (l5I).toNatClampNeg)) (v23)) fun v28 => (if v28 = 0 then some ((3 : Int32), V) else (mLt (l5I + (1 : Int32)) fun x34 => (rec 1 Ln l1A l2A (l3I) (l4I) (x34) V)))))))))
def mX7_judgePairing_go (F : Nat) : Nat → Nat → (Nat → Nat) → Nat → Nat → Int32 → Int32 → Int32 → mV → Option (Int32 × mV)
  | 0, _, _, _, _, _, _, _, _ => none
  | k' + 1, lab, Ln, l1A, l2A, l3I, l4I, l5I, V => if lab = 0 then mX7_judgePairing_b0 F (mX7_judgePairing_go F k') Ln l1A l2A l3I l4I l5I V else if lab = 1 then mX7_judgePairing_b1 F (mX7_judgePairing_go F k') Ln l1A l2A l3I l4I l5I V else none
def mX7_judgePairing_s (F : Nat) (rec : Nat → (Nat → Nat) → Nat → Nat → Int32 → Int32 → Int32 → mV → Option (Int32 × mV)) (Ln : Nat → Nat) (l1A : Nat) (l2A : Nat) (V : mV) : Option (Int32 × mV) :=
  (mLt (V.fI l1A 1) fun x37 => (if (V.fI l2A 1) = x37 then (mBN (mX9_liesWithin F Ln l2A ((0 : Int32)) ((0 : Int32)) ((x37 - (1 : Int32))) V) fun v39 => (if v39 = 0 then some ((1 : Int32), V) else (mBW (mX3_fillNear F l1A 19 ((-1 : Int32)) V) fun v45 V46 => (rec 0 Ln l1A l2A (x37) ((0 : Int32)) ((0 : Int32)) V46)))) else some ((1 : Int32), V)))
def mX7_judgePairing (F : Nat) (Ln : Nat → Nat) (l1A : Nat) (l2A : Nat) (V : mV) : Option (Int32 × mV) := mX7_judgePairing_s F (mX7_judgePairing_go F F) Ln l1A l2A V
set_option maxHeartbeats 4000000 in
set_option maxRecDepth 100000 in
theorem LX7_judgePairing_go {α : Nat → Nat} {F : Nat} {v : Int32} {V1 : mV} {Φ : (Int32 → wPS → Prop)} : ∀ k' : Nat, (∀ (l1A : Nat) (l2A : Nat) (l3I : Int32) (l4I : Int32) (l5I : Int32) (S : wPS) (V : mV) (Ln : Nat → Nat) , mRel α S Ln V → mK l1A = 3 → mK l2A = 9 → mX7_judgePairing_go F k' 0 Ln l1A l2A l3I l4I l5I V = some (v, V1) → (∀ S1, mRel α S1 Ln V1 → mFr α S S1 → Φ v S1) → rX7_judgePairing_go F k' 0 (α 2) (α l1A) (α l2A) l3I l4I l5I S Φ) ∧ (∀ (l1A : Nat) (l2A : Nat) (l3I : Int32) (l4I : Int32) (l5I : Int32) (S : wPS) (V : mV) (Ln : Nat → Nat) , mRel α S Ln V → mK l1A = 3 → mK l2A = 9 → mX7_judgePairing_go F k' 1 Ln l1A l2A l3I l4I l5I V = some (v, V1) → (∀ S1, mRel α S1 Ln V1 → mFr α S S1 → Φ v S1) → rX7_judgePairing_go F k' 1 (α 2) (α l1A) (α l2A) l3I l4I l5I S Φ) := by
  intro k'
  induction k' with
  | zero => exact ⟨(fun _ _ _ _ _ _ _ _ _ _ _ h _ => by cases h), (fun _ _ _ _ _ _ _ _ _ _ _ h _ => by cases h)⟩
  | succ k' ih =>
    refine ⟨?_, ?_⟩
    · intro l1A l2A l3I l4I l5I S V Ln R sl1A sl2A h k
      rw [mX7_judgePairing_go, if_pos rfl] at h
      rw [rX7_judgePairing_go, if_pos rfl]
      unfold mX7_judgePairing_b0 at h
      unfold rX7_judgePairing_b0
      refine mIf h Iff.rfl (fun c1 h => ?_) (fun c1 h => ?_)
      · exact ih.2 _ _ _ _ _ _ _ _ R sl1A sl2A h (fun S1 R1 F1 => k S1 R1 F1)
      · obtain ⟨v2, hv2, h⟩ := mBN_some h
        refine LX9_at hv2 R sl2A rfl rfl ?_
        obtain ⟨v7, hv7, h⟩ := mBN_some h
        refine LX9_at hv7 R sl2A rfl rfl ?_
        refine mIf h Iff.rfl (fun c2 h => ?_) (fun c2 h => ?_)
        · refine mLet h rfl (fun x13 ex13 h => ?_)
          exact ih.1 _ _ _ _ _ _ _ _ R sl1A sl2A h (fun S1 R1 F1 => k S1 R1 F1)
        · obtain ⟨rfl, rfl⟩ := mRW h
          exact k _ R mFr.rf
    · intro l1A l2A l3I l4I l5I S V Ln R sl1A sl2A h k
      rw [mX7_judgePairing_go, if_neg (by decide), if_pos rfl] at h
      rw [rX7_judgePairing_go, if_neg (by decide), if_pos rfl]
      unfold mX7_judgePairing_b1 at h
      unfold rX7_judgePairing_b1
      refine mIf h Iff.rfl (fun c3 h => ?_) (fun c3 h => ?_)
      · refine mIf h (by rw [show gEntry_boundNow S (α l1A) = V.fI l1A 8 from (mg_I (i := l1A) R (mO3 sl1A) rfl 8)]) (fun c4 h => ?_) (fun c4 h => ?_)
        · obtain ⟨rfl, rfl⟩ := mRW h
          exact k _ R mFr.rf
        · obtain ⟨rfl, rfl⟩ := mRW h
          exact k _ R mFr.rf
      · obtain ⟨v16, hv16, h⟩ := mBN_some h
        refine LX9_at hv16 R sl2A rfl rfl ?_
        refine mIf h Iff.rfl (fun c5 h => ?_) (fun c5 h => ?_)
        · refine mLet h rfl (fun x35 ex35 h => ?_)
          refine mLet h rfl (fun x36 ex36 h => ?_)
          exact ih.2 _ _ _ _ _ _ _ _ R sl1A sl2A h (fun S1 R1 F1 => k S1 R1 F1)
        · refine mGd h (by rw [show S.len (wkAd (gNetworks_near S (α 2))) = 9 from (mg_len (i := 19) R (mA13 rfl) (mg_A (t := 19) R rfl rfl))]) (fun c6 h => ?_)
          obtain ⟨v23, hv23, h⟩ := mBN_some h
          refine LX9_at hv23 R sl2A rfl rfl ?_
          obtain ⟨v28, hv28, h⟩ := mBN_some h
          refine LX11_has hv28 (by rw [show S.rI (wkAd (gNetworks_near S (α 2))) (l5I).toNatClampNeg = V.rI 19 (l5I).toNatClampNeg from (mg_rI (i := 19) R (mA13 rfl) (mg_A (t := 19) R rfl rfl) rfl)]) rfl ?_
          refine mIf h Iff.rfl (fun c7 h => ?_) (fun c7 h => ?_)
          · obtain ⟨rfl, rfl⟩ := mRW h
            exact k _ R mFr.rf
          · refine mLet h rfl (fun x34 ex34 h => ?_)
            exact ih.2 _ _ _ _ _ _ _ _ R sl1A sl2A h (fun S1 R1 F1 => k S1 R1 F1)
set_option maxHeartbeats 4000000 in
set_option maxRecDepth 100000 in
theorem LX7_judgePairing {α : Nat → Nat} {F : Nat} {S : wPS} {Ln : Nat → Nat} {V V1 : mV} {v : Int32} {Φ : (Int32 → wPS → Prop)} {l0Ax : Nat} {l1Ax : Nat} {l1A : Nat} {l2Ax : Nat} {l2A : Nat} (h : mX7_judgePairing F Ln l1A l2A V = some (v, V1)) (R : mRel α S Ln V) (sl1A : mK l1A = 3) (sl2A : mK l2A = 9) (el0A : l0Ax = α 2) (el1A : l1Ax = α l1A) (el2A : l2Ax = α l2A) (k : (∀ S1, mRel α S1 Ln V1 → mFr α S S1 → Φ v S1)) : rX7_judgePairing F l0Ax l1Ax l2Ax S Φ := by
  have el0A := el0A.symm
  subst el0A
  have el1A := el1A.symm
  subst el1A
  have el2A := el2A.symm
  subst el2A
  have ih := LX7_judgePairing_go  (α := α) (F := F) (v := v) (Φ := Φ) (V1 := V1) F
  unfold mX7_judgePairing mX7_judgePairing_s at h
  unfold rX7_judgePairing rX7_judgePairing_s
  refine mLet h (by rw [show gEntry_size S (α l1A) = V.fI l1A 1 from (mg_I (i := l1A) R (mO3 sl1A) rfl 1)]) (fun x37 ex37 h => ?_)
  refine mIf h (by rw [show gRow_count S (α l2A) = V.fI l2A 1 from (mg_I (i := l2A) R (mO9 sl2A) rfl 1)]) (fun c8 h => ?_) (fun c8 h => ?_)
  · obtain ⟨v39, hv39, h⟩ := mBN_some h
    refine LX9_liesWithin hv39 R sl2A rfl rfl rfl rfl ?_
    refine mIf h Iff.rfl (fun c9 h => ?_) (fun c9 h => ?_)
    · obtain ⟨rfl, rfl⟩ := mRW h
      exact k _ R mFr.rf
    · obtain ⟨v45, V46, hv45, h⟩ := mBW_some h
      refine LX3_fillNear hv45 R sl1A rfl rfl (mg_A (t := 19) R rfl rfl) rfl (fun S46 R46 F46 => ?_)
      exact ih.1 _ _ _ _ _ _ _ _ R46 sl1A sl2A h (fun S1 R1 F1 => k S1 R1 (F46.tr F1))
  · obtain ⟨rfl, rfl⟩ := mRW h
    exact k _ R mFr.rf
def mX7_judgeNodes_b0 (F : Nat) (rec : Nat → (Nat → Nat) → Nat → Nat → Int32 → Int32 → Int32 → Int32 → mV → Option (Int32 × mV)) (Ln : Nat → Nat) (l1A : Nat) (l2A : Nat) (l3I : Int32) (l4I : Int32) (l5I : Int32) (V : mV) : Option (Int32 × mV) :=
  (if (V.fI l2A 1) ≤ l5I then (rec 1 Ln l1A l2A (l3I) (l4I) ((0 : Int32)) ((0 : Int32)) V) else (mBN (mX9_at F Ln l2A (l5I) V) fun v2 => (mLt (l4I &&& (((1 : Int32) <<< (v2 &&& 31)) ^^^ (-1 : Int32))) fun x7 => (mLt (l5I + (1 : Int32)) fun x8 => (rec 0 Ln l1A l2A (l3I) (x7) (x8) 0 V)))))
def mX7_judgeNodes_b1 (F : Nat) (rec : Nat → (Nat → Nat) → Nat → Nat → Int32 → Int32 → Int32 → Int32 → mV → Option (Int32 × mV)) (Ln : Nat → Nat) (l1A : Nat) (l2A : Nat) (l3I : Int32) (l4I : Int32) (l5I : Int32) (l6I : Int32) (V : mV) : Option (Int32 × mV) :=
  (if l3I ≤ l6I then (if l5I ≤ ((V.fI l1A 8) + (V.fI l2A 1)) then some ((2 : Int32), V) else some ((0 : Int32), V)) else (mBN (mX11_has F (l4I) (l6I)) fun v11 => (if v11 = 0 then (mLt (l6I + (1 : Int32)) fun x17 => (rec 1 Ln l1A l2A (l3I) (l4I) (l5I) (x17) V)) else (mBN (mX11_hangingTogether F 19 (l6I) (l4I) V) fun v18 => (mBN (mJ6_bitCount_0f7a4 F (v18)) fun v23 => (mLt (l5I + (v23 - v23 / (2 : Int32) * (2 : Int32))) fun x28 => (mLt (l4I &&& (v18 ^^^ (-1 : Int32))) fun x29 => (mLt (l6I + (1 : Int32)) fun x30 => (rec 1 Ln l1A l2A (l3I) (x29) (x28) (x30) V)))))))))
def mX7_judgeNodes_go (F : Nat) : Nat → Nat → (Nat → Nat) → Nat → Nat → Int32 → Int32 → Int32 → Int32 → mV → Option (Int32 × mV)
  | 0, _, _, _, _, _, _, _, _, _ => none
  | k' + 1, lab, Ln, l1A, l2A, l3I, l4I, l5I, l6I, V => if lab = 0 then mX7_judgeNodes_b0 F (mX7_judgeNodes_go F k') Ln l1A l2A l3I l4I l5I V else if lab = 1 then mX7_judgeNodes_b1 F (mX7_judgeNodes_go F k') Ln l1A l2A l3I l4I l5I l6I V else none
def mX7_judgeNodes_s (F : Nat) (rec : Nat → (Nat → Nat) → Nat → Nat → Int32 → Int32 → Int32 → Int32 → mV → Option (Int32 × mV)) (Ln : Nat → Nat) (l1A : Nat) (l2A : Nat) (V : mV) : Option (Int32 × mV) :=
  (mLt (V.fI l1A 1) fun x31 => (mBN (mX9_liesWithin F Ln l2A ((0 : Int32)) ((0 : Int32)) ((x31 - (1 : Int32))) V) fun v32 => (if v32 = 0 then some ((1 : Int32), V) else (mBN (mX9_isRising F Ln l2A ((0 : Int32)) V) fun v38 => (if v38 = 0 then some ((1 : Int32), V) else (mBW (mX3_fillNear F l1A 19 ((-1 : Int32)) V) fun v44 V45 => (mLt (((1 : Int32) <<< (x31 &&& 31)) - (1 : Int32)) fun x49 => (rec 0 Ln l1A l2A (x31) (x49) ((0 : Int32)) 0 V45))))))))
def mX7_judgeNodes (F : Nat) (Ln : Nat → Nat) (l1A : Nat) (l2A : Nat) (V : mV) : Option (Int32 × mV) := mX7_judgeNodes_s F (mX7_judgeNodes_go F F) Ln l1A l2A V
set_option maxHeartbeats 4000000 in
set_option maxRecDepth 100000 in
theorem LX7_judgeNodes_go {α : Nat → Nat} {F : Nat} {v : Int32} {V1 : mV} {Φ : (Int32 → wPS → Prop)} : ∀ k' : Nat, (∀ (l1A : Nat) (l2A : Nat) (l3I : Int32) (l4I : Int32) (l5I : Int32) (S : wPS) (V : mV) (Ln : Nat → Nat) , mRel α S Ln V → mK l1A = 3 → mK l2A = 9 → mX7_judgeNodes_go F k' 0 Ln l1A l2A l3I l4I l5I 0 V = some (v, V1) → (∀ S1, mRel α S1 Ln V1 → mFr α S S1 → Φ v S1) → rX7_judgeNodes_go F k' 0 (α 2) (α l1A) (α l2A) l3I l4I l5I 0 S Φ) ∧ (∀ (l1A : Nat) (l2A : Nat) (l3I : Int32) (l4I : Int32) (l5I : Int32) (l6I : Int32) (S : wPS) (V : mV) (Ln : Nat → Nat) , mRel α S Ln V → mK l1A = 3 → mK l2A = 9 → mX7_judgeNodes_go F k' 1 Ln l1A l2A l3I l4I l5I l6I V = some (v, V1) → (∀ S1, mRel α S1 Ln V1 → mFr α S S1 → Φ v S1) → rX7_judgeNodes_go F k' 1 (α 2) (α l1A) (α l2A) l3I l4I l5I l6I S Φ) := by
  intro k'
  induction k' with
  | zero => exact ⟨(fun _ _ _ _ _ _ _ _ _ _ _ h _ => by cases h), (fun _ _ _ _ _ _ _ _ _ _ _ _ h _ => by cases h)⟩
  | succ k' ih =>
    refine ⟨?_, ?_⟩
    · intro l1A l2A l3I l4I l5I S V Ln R sl1A sl2A h k
      rw [mX7_judgeNodes_go, if_pos rfl] at h
      rw [rX7_judgeNodes_go, if_pos rfl]
      unfold mX7_judgeNodes_b0 at h
      unfold rX7_judgeNodes_b0
      refine mIf h (by rw [show gRow_count S (α l2A) = V.fI l2A 1 from (mg_I (i := l2A) R (mO9 sl2A) rfl 1)]) (fun c1 h => ?_) (fun c1 h => ?_)
      · exact ih.2 _ _ _ _ _ _ _ _ _ R sl1A sl2A h (fun S1 R1 F1 => k S1 R1 F1)
      · obtain ⟨v2, hv2, h⟩ := mBN_some h
        refine LX9_at hv2 R sl2A rfl rfl ?_
        refine mLet h rfl (fun x7 ex7 h => ?_)
        refine mLet h rfl (fun x8 ex8 h => ?_)
        exact ih.1 _ _ _ _ _ _ _ _ R sl1A sl2A h (fun S1 R1 F1 => k S1 R1 F1)
    · intro l1A l2A l3I l4I l5I l6I S V Ln R sl1A sl2A h k
      rw [mX7_judgeNodes_go, if_neg (by decide), if_pos rfl] at h
      rw [rX7_judgeNodes_go, if_neg (by decide), if_pos rfl]
      unfold mX7_judgeNodes_b1 at h
      unfold rX7_judgeNodes_b1
      refine mIf h Iff.rfl (fun c2 h => ?_) (fun c2 h => ?_)
      · refine mIf h (by rw [show gEntry_boundNow S (α l1A) = V.fI l1A 8 from (mg_I (i := l1A) R (mO3 sl1A) rfl 8), show gRow_count S (α l2A) = V.fI l2A 1 from (mg_I (i := l2A) R (mO9 sl2A) rfl 1)]) (fun c3 h => ?_) (fun c3 h => ?_)
        · obtain ⟨rfl, rfl⟩ := mRW h
          exact k _ R mFr.rf
        · obtain ⟨rfl, rfl⟩ := mRW h
          exact k _ R mFr.rf
      · obtain ⟨v11, hv11, h⟩ := mBN_some h
        refine LX11_has hv11 rfl rfl ?_
        refine mIf h Iff.rfl (fun c4 h => ?_) (fun c4 h => ?_)
        · refine mLet h rfl (fun x17 ex17 h => ?_)
          exact ih.2 _ _ _ _ _ _ _ _ _ R sl1A sl2A h (fun S1 R1 F1 => k S1 R1 F1)
        · obtain ⟨v18, hv18, h⟩ := mBN_some h
          refine LX11_hangingTogether hv18 R rfl (mg_A (t := 19) R rfl rfl) rfl rfl ?_
          obtain ⟨v23, hv23, h⟩ := mBN_some h
          refine LJ6_bitCount_0f7a4 hv23 rfl ?_
          refine mLet h rfl (fun x28 ex28 h => ?_)
          refine mLet h rfl (fun x29 ex29 h => ?_)
          refine mLet h rfl (fun x30 ex30 h => ?_)
          exact ih.2 _ _ _ _ _ _ _ _ _ R sl1A sl2A h (fun S1 R1 F1 => k S1 R1 F1)
set_option maxHeartbeats 4000000 in
set_option maxRecDepth 100000 in
theorem LX7_judgeNodes {α : Nat → Nat} {F : Nat} {S : wPS} {Ln : Nat → Nat} {V V1 : mV} {v : Int32} {Φ : (Int32 → wPS → Prop)} {l0Ax : Nat} {l1Ax : Nat} {l1A : Nat} {l2Ax : Nat} {l2A : Nat} (h : mX7_judgeNodes F Ln l1A l2A V = some (v, V1)) (R : mRel α S Ln V) (sl1A : mK l1A = 3) (sl2A : mK l2A = 9) (el0A : l0Ax = α 2) (el1A : l1Ax = α l1A) (el2A : l2Ax = α l2A) (k : (∀ S1, mRel α S1 Ln V1 → mFr α S S1 → Φ v S1)) : rX7_judgeNodes F l0Ax l1Ax l2Ax S Φ := by
  have el0A := el0A.symm
  subst el0A
  have el1A := el1A.symm
  subst el1A
  have el2A := el2A.symm
  subst el2A
  have ih := LX7_judgeNodes_go  (α := α) (F := F) (v := v) (Φ := Φ) (V1 := V1) F
  unfold mX7_judgeNodes mX7_judgeNodes_s at h
  unfold rX7_judgeNodes rX7_judgeNodes_s
  refine mLet h (by rw [show gEntry_size S (α l1A) = V.fI l1A 1 from (mg_I (i := l1A) R (mO3 sl1A) rfl 1)]) (fun x31 ex31 h => ?_)
  obtain ⟨v32, hv32, h⟩ := mBN_some h
  refine LX9_liesWithin hv32 R sl2A rfl rfl rfl rfl ?_
  refine mIf h Iff.rfl (fun c5 h => ?_) (fun c5 h => ?_)
  · obtain ⟨rfl, rfl⟩ := mRW h
    exact k _ R mFr.rf
  · obtain ⟨v38, hv38, h⟩ := mBN_some h
    refine LX9_isRising hv38 R sl2A rfl rfl ?_
    refine mIf h Iff.rfl (fun c6 h => ?_) (fun c6 h => ?_)
    · obtain ⟨rfl, rfl⟩ := mRW h
      exact k _ R mFr.rf
    · obtain ⟨v44, V45, hv44, h⟩ := mBW_some h
      refine LX3_fillNear hv44 R sl1A rfl rfl (mg_A (t := 19) R rfl rfl) rfl (fun S45 R45 F45 => ?_)
      refine mLet h rfl (fun x49 ex49 h => ?_)
      exact ih.1 _ _ _ _ _ _ _ _ R45 sl1A sl2A h (fun S1 R1 F1 => k S1 R1 (F45.tr F1))
def mX7_reachBy_b0 (F : Nat) (rec : Nat → Int32 → Int32 → Int32 → mV → Option (Unit × mV)) (l1I : Int32) (l2I : Int32) (l3I : Int32) (V : mV) : Option (Unit × mV) :=
  (mBN (mX11_has F ((V.fI 2 10)) (l3I)) fun v1 => (if v1 = 0 then some ((), V) else (mBN (mX11_has F ((V.fI 2 10)) (l2I)) fun v7 => (if v7 = 0 then (if l1I < 0 ∨ 10 ≤ (l1I).toNatClampNeg then none else (if (V.rI 24 (l1I).toNatClampNeg) ≤ 0 then some ((), V) else (mLt (mF V 2 10 (((V.fI 2 10) ||| ((1 : Int32) <<< (l2I &&& 31))))) fun V15 => (if l2I < 0 ∨ 7 ≤ (l2I).toNatClampNeg then none else (mLt (mI V15 25 (l2I) ((((2 : Int32) * l1I) + (1 : Int32)))) fun V17 => some ((), V17)))))) else some ((), V)))))
def mX7_reachBy_go (F : Nat) : Nat → Nat → Int32 → Int32 → Int32 → mV → Option (Unit × mV)
  | 0, _, _, _, _, _ => none
  | k' + 1, lab, l1I, l2I, l3I, V => if lab = 0 then mX7_reachBy_b0 F (mX7_reachBy_go F k') l1I l2I l3I V else none
def mX7_reachBy_s (F : Nat) (rec : Nat → Int32 → Int32 → Int32 → mV → Option (Unit × mV)) (l1I : Int32) (V : mV) : Option (Unit × mV) :=
  (if l1I < 0 ∨ 10 ≤ (l1I).toNatClampNeg then none else (mLt (V.rI 21 (l1I).toNatClampNeg) fun x19 => (if l1I < 0 ∨ 10 ≤ (l1I).toNatClampNeg then none else (mLt (V.rI 22 (l1I).toNatClampNeg) fun x21 => (mBN (mX11_has F ((V.fI 2 10)) (x19)) fun v22 => (if v22 = 0 then (rec 0 (l1I) (x19) (x21) V) else (mBN (mX11_has F ((V.fI 2 10)) (x21)) fun v28 => (if v28 = 0 then (if l1I < 0 ∨ 10 ≤ (l1I).toNatClampNeg then none else (if l1I < 0 ∨ 10 ≤ (l1I).toNatClampNeg then none else (if (V.rI 23 (l1I).toNatClampNeg) ≤ (V.rI 24 (l1I).toNatClampNeg) then (rec 0 (l1I) (x19) (x21) V) else (mLt (mF V 2 10 (((V.fI 2 10) ||| ((1 : Int32) <<< (x21 &&& 31))))) fun V37 => (if x21 < 0 ∨ 7 ≤ (x21).toNatClampNeg then none else (mLt (mI V37 25 (x21) (((2 : Int32) * l1I))) fun V39 => some ((), V39))))))) else (rec 0 (l1I) (x19) (x21) V)))))))))
def mX7_reachBy (F : Nat) (l1I : Int32) (V : mV) : Option (Unit × mV) := mX7_reachBy_s F (mX7_reachBy_go F F) l1I V
set_option maxHeartbeats 4000000 in
set_option maxRecDepth 100000 in
theorem LX7_reachBy_go {α : Nat → Nat} {F : Nat} {Ln : Nat → Nat} {v : Unit} {V1 : mV} {Φ : (Unit → wPS → Prop)} : ∀ k' : Nat, (∀ (l1I : Int32) (l2I : Int32) (l3I : Int32) (S : wPS) (V : mV) , mRel α S Ln V → mX7_reachBy_go F k' 0 l1I l2I l3I V = some (v, V1) → (∀ S1, mRel α S1 Ln V1 → mFr α S S1 → Φ v S1) → rX7_reachBy_go F k' 0 (α 2) l1I l2I l3I S Φ) := by
  intro k'
  induction k' with
  | zero => exact (fun _ _ _ _ _ _ h _ => by cases h)
  | succ k' ih =>
    intro l1I l2I l3I S V R h k
    rw [mX7_reachBy_go, if_pos rfl] at h
    rw [rX7_reachBy_go, if_pos rfl]
    unfold mX7_reachBy_b0 at h
    unfold rX7_reachBy_b0
    obtain ⟨v1, hv1, h⟩ := mBN_some h
    refine LX11_has hv1 (by rw [show gNetworks_reached S (α 2) = V.fI 2 10 from (mg_I (i := 2) R (by decide) rfl 10)]) rfl ?_
    refine mIf h Iff.rfl (fun c1 h => ?_) (fun c1 h => ?_)
    · obtain ⟨rfl, rfl⟩ := mRW h
      exact k _ R mFr.rf
    · obtain ⟨v7, hv7, h⟩ := mBN_some h
      refine LX11_has hv7 (by rw [show gNetworks_reached S (α 2) = V.fI 2 10 from (mg_I (i := 2) R (by decide) rfl 10)]) rfl ?_
      refine mIf h Iff.rfl (fun c2 h => ?_) (fun c2 h => ?_)
      · refine mGd h (by rw [show S.len (wkAd (gNetworks_flow S (α 2))) = 10 from (mg_len (i := 24) R (mA13 rfl) (mg_A (t := 24) R rfl rfl))]) (fun c3 h => ?_)
        refine mIf h (by rw [show S.rI (wkAd (gNetworks_flow S (α 2))) (l1I).toNatClampNeg = V.rI 24 (l1I).toNatClampNeg from (mg_rI (i := 24) R (mA13 rfl) (mg_A (t := 24) R rfl rfl) rfl)]) (fun c4 h => ?_) (fun c4 h => ?_)
        · obtain ⟨rfl, rfl⟩ := mRW h
          exact k _ R mFr.rf
        · obtain ⟨V15, eV15, h⟩ := mLt_some h
          refine mU_F eV15 R (by decide) rfl (by rw [show gNetworks_reached S (α 2) = V.fI 2 10 from (mg_I (i := 2) R (by decide) rfl 10)]) (fun S15 R15 F15 => ?_)
          refine mGd h (by rw [show S15.len (wkAd (gNetworks_via S15 (α 2))) = 7 from (mg_len (i := 25) R15 (mA13 rfl) (mg_A (t := 25) R15 rfl rfl))]) (fun c5 h => ?_)
          obtain ⟨V17, eV17, h⟩ := mLt_some h
          refine mU_I eV17 R15 (mA13 rfl) (mg_A (t := 25) R15 rfl rfl) rfl rfl (fun S17 R17 F17 => ?_)
          obtain ⟨rfl, rfl⟩ := mRW h
          exact k _ R17 (F15.tr F17)
      · obtain ⟨rfl, rfl⟩ := mRW h
        exact k _ R mFr.rf
set_option maxHeartbeats 4000000 in
set_option maxRecDepth 100000 in
theorem LX7_reachBy {α : Nat → Nat} {F : Nat} {S : wPS} {Ln : Nat → Nat} {V V1 : mV} {v : Unit} {Φ : (Unit → wPS → Prop)} {l0Ax : Nat} {l1Ix l1I : Int32} (h : mX7_reachBy F l1I V = some (v, V1)) (R : mRel α S Ln V) (el0A : l0Ax = α 2) (el1I : l1Ix = l1I) (k : (∀ S1, mRel α S1 Ln V1 → mFr α S S1 → Φ v S1)) : rX7_reachBy F l0Ax l1Ix S Φ := by
  have el0A := el0A.symm
  subst el0A
  have el1I := el1I.symm
  subst el1I
  have ih := LX7_reachBy_go  (α := α) (F := F) (v := v) (Ln := Ln) (Φ := Φ) (V1 := V1) F
  unfold mX7_reachBy mX7_reachBy_s at h
  unfold rX7_reachBy rX7_reachBy_s
  refine mGd h (by rw [show S.len (wkAd (gNetworks_from S (α 2))) = 10 from (mg_len (i := 21) R (mA13 rfl) (mg_A (t := 21) R rfl rfl))]) (fun c6 h => ?_)
  refine mLet h (by rw [show S.rI (wkAd (gNetworks_from S (α 2))) (l1I).toNatClampNeg = V.rI 21 (l1I).toNatClampNeg from (mg_rI (i := 21) R (mA13 rfl) (mg_A (t := 21) R rfl rfl) rfl)]) (fun x19 ex19 h => ?_)
  refine mGd h (by rw [show S.len (wkAd (gNetworks_to S (α 2))) = 10 from (mg_len (i := 22) R (mA13 rfl) (mg_A (t := 22) R rfl rfl))]) (fun c7 h => ?_)
  refine mLet h (by rw [show S.rI (wkAd (gNetworks_to S (α 2))) (l1I).toNatClampNeg = V.rI 22 (l1I).toNatClampNeg from (mg_rI (i := 22) R (mA13 rfl) (mg_A (t := 22) R rfl rfl) rfl)]) (fun x21 ex21 h => ?_)
  obtain ⟨v22, hv22, h⟩ := mBN_some h
  refine LX11_has hv22 (by rw [show gNetworks_reached S (α 2) = V.fI 2 10 from (mg_I (i := 2) R (by decide) rfl 10)]) rfl ?_
  refine mIf h Iff.rfl (fun c8 h => ?_) (fun c8 h => ?_)
  · exact ih _ _ _ _ _ R h (fun S1 R1 F1 => k S1 R1 F1)
  · obtain ⟨v28, hv28, h⟩ := mBN_some h
    refine LX11_has hv28 (by rw [show gNetworks_reached S (α 2) = V.fI 2 10 from (mg_I (i := 2) R (by decide) rfl 10)]) rfl ?_
    refine mIf h Iff.rfl (fun c9 h => ?_) (fun c9 h => ?_)
    · refine mGd h (by rw [show S.len (wkAd (gNetworks_flow S (α 2))) = 10 from (mg_len (i := 24) R (mA13 rfl) (mg_A (t := 24) R rfl rfl))]) (fun c10 h => ?_)
      refine mGd h (by rw [show S.len (wkAd (gNetworks_caps S (α 2))) = 10 from (mg_len (i := 23) R (mA13 rfl) (mg_A (t := 23) R rfl rfl))]) (fun c11 h => ?_)
      refine mIf h (by rw [show S.rI (wkAd (gNetworks_caps S (α 2))) (l1I).toNatClampNeg = V.rI 23 (l1I).toNatClampNeg from (mg_rI (i := 23) R (mA13 rfl) (mg_A (t := 23) R rfl rfl) rfl), show S.rI (wkAd (gNetworks_flow S (α 2))) (l1I).toNatClampNeg = V.rI 24 (l1I).toNatClampNeg from (mg_rI (i := 24) R (mA13 rfl) (mg_A (t := 24) R rfl rfl) rfl)]) (fun c12 h => ?_) (fun c12 h => ?_)
      · exact ih _ _ _ _ _ R h (fun S1 R1 F1 => k S1 R1 F1)
      · obtain ⟨V37, eV37, h⟩ := mLt_some h
        refine mU_F eV37 R (by decide) rfl (by rw [show gNetworks_reached S (α 2) = V.fI 2 10 from (mg_I (i := 2) R (by decide) rfl 10)]) (fun S37 R37 F37 => ?_)
        refine mGd h (by rw [show S37.len (wkAd (gNetworks_via S37 (α 2))) = 7 from (mg_len (i := 25) R37 (mA13 rfl) (mg_A (t := 25) R37 rfl rfl))]) (fun c13 h => ?_)
        obtain ⟨V39, eV39, h⟩ := mLt_some h
        refine mU_I eV39 R37 (mA13 rfl) (mg_A (t := 25) R37 rfl rfl) rfl rfl (fun S39 R39 F39 => ?_)
        obtain ⟨rfl, rfl⟩ := mRW h
        exact k _ R39 (F37.tr F39)
    · exact ih _ _ _ _ _ R h (fun S1 R1 F1 => k S1 R1 F1)
end
