/-! LIFTED BY PROGRAM (lift.py): X10_writeSteps, X10_isNext, X10_judgeClosure, X11_undo, X11_testItem. -/
section
def mX10_writeSteps_b0 (F : Nat) (rec : Nat → (Nat → Nat) → Nat → Int32 → Int32 → Int32 → Int32 → mV → Option (Unit × (Nat → Nat) × mV)) (Ln : Nat → Nat) (l1A : Nat) (l3I : Int32) (l4I : Int32) (V : mV) : Option (Unit × (Nat → Nat) × mV) :=
  (if l4I ≤ 0 then some ((), Ln, V) else (mBW (mX10_findNext F l1A (l3I) V) fun v2 V3 => (rec 1 Ln l1A 0 (l4I) ((256 : Int32)) ((0 : Int32)) V3)))
def mX10_writeSteps_b1 (F : Nat) (rec : Nat → (Nat → Nat) → Nat → Int32 → Int32 → Int32 → Int32 → mV → Option (Unit × (Nat → Nat) × mV)) (Ln : Nat → Nat) (l1A : Nat) (l4I : Int32) (l5I : Int32) (l6I : Int32) (V : mV) : Option (Unit × (Nat → Nat) × mV) :=
  (if (V.fI 7 9) ≤ l6I then (mBA (mX9_add F Ln (l1A + 2) (l5I) V) fun v8 L9 V9 => (mLt (l4I + (-1 : Int32)) fun x13 => (rec 0 L9 l1A (l5I) (x13) 0 0 V9))) else (if l6I < 0 ∨ 96 ≤ (l6I).toNatClampNeg then none else (if (V.rI 83 (l6I).toNatClampNeg) < 0 ∨ 256 ≤ ((V.rI 83 (l6I).toNatClampNeg)).toNatClampNeg then none else (if (V.rI 82 ((V.rI 83 (l6I).toNatClampNeg)).toNatClampNeg) = (l4I - (1 : Int32)) then (if l6I < 0 ∨ 96 ≤ (l6I).toNatClampNeg then none else (mLt (if (V.rI 83 (l6I).toNatClampNeg) < l5I then (V.rI 83 (l6I).toNatClampNeg) else l5I) fun x19 => (mLt (l6I + (1 : Int32)) fun x20 => (rec 1 Ln l1A 0 (l4I) (x19) (x20) V)))) else (mLt (l6I + (1 : Int32)) fun x17 => (rec 1 Ln l1A 0 (l4I) (l5I) (x17) V))))))
def mX10_writeSteps_go (F : Nat) : Nat → Nat → (Nat → Nat) → Nat → Int32 → Int32 → Int32 → Int32 → mV → Option (Unit × (Nat → Nat) × mV)
  | 0, _, _, _, _, _, _, _, _ => none
  | k' + 1, lab, Ln, l1A, l3I, l4I, l5I, l6I, V => if lab = 0 then mX10_writeSteps_b0 F (mX10_writeSteps_go F k') Ln l1A l3I l4I V else if lab = 1 then mX10_writeSteps_b1 F (mX10_writeSteps_go F k') Ln l1A l4I l5I l6I V else none
def mX10_writeSteps_s (F : Nat) (rec : Nat → (Nat → Nat) → Nat → Int32 → Int32 → Int32 → Int32 → mV → Option (Unit × (Nat → Nat) × mV)) (Ln : Nat → Nat) (l1A : Nat) (l2I : Int32) (V : mV) : Option (Unit × (Nat → Nat) × mV) :=
  (mBA (mX9_add F Ln (l1A + 2) (l2I) V) fun v21 L22 V22 => (if l2I < 0 ∨ 256 ≤ (l2I).toNatClampNeg then none else (mLt (V22.rI 82 (l2I).toNatClampNeg) fun x27 => (rec 0 L22 l1A (l2I) (x27) 0 0 V22))))
def mX10_writeSteps (F : Nat) (Ln : Nat → Nat) (l1A : Nat) (l2I : Int32) (V : mV) : Option (Unit × (Nat → Nat) × mV) := mX10_writeSteps_s F (mX10_writeSteps_go F F) Ln l1A l2I V
set_option maxHeartbeats 4000000 in
set_option maxRecDepth 100000 in
theorem MX10_writeSteps_go {F : Nat} {v : Unit} {Ln1 : Nat → Nat} {V1 : mV} : ∀ k' : Nat, (∀ (l1A : Nat) (l3I : Int32) (l4I : Int32) (Ln : Nat → Nat) (V : mV), mX10_writeSteps_go F k' 0 Ln l1A l3I l4I 0 0 V = some (v, Ln1, V1) → mP Ln1 ≤ mP Ln) ∧ (∀ (l1A : Nat) (l4I : Int32) (l5I : Int32) (l6I : Int32) (Ln : Nat → Nat) (V : mV), mX10_writeSteps_go F k' 1 Ln l1A 0 l4I l5I l6I V = some (v, Ln1, V1) → mP Ln1 ≤ mP Ln) := by
  intro k'
  induction k' with
  | zero => exact ⟨(fun _ _ _ _ _ h => by cases h), (fun _ _ _ _ _ _ h => by cases h)⟩
  | succ k' ihM =>
    refine ⟨?_, ?_⟩
    · intro l1A l3I l4I Ln V h
      rw [mX10_writeSteps_go, if_pos rfl] at h
      unfold mX10_writeSteps_b0 at h
      rcases mIf_some h with ⟨_, h⟩ | ⟨_, h⟩
      · cases h
        exact Nat.le_refl _
      · obtain ⟨_, _, _, h⟩ := mBW_some h
        exact ihM.2 _ _ _ _ _ _ h
    · intro l1A l4I l5I l6I Ln V h
      rw [mX10_writeSteps_go, if_neg (by decide), if_pos rfl] at h
      unfold mX10_writeSteps_b1 at h
      rcases mIf_some h with ⟨_, h⟩ | ⟨_, h⟩
      · obtain ⟨_, _, _, z1, h⟩ := mBA_some h
        refine Nat.le_trans ?_ (MX9_add z1)
        obtain ⟨_, _, h⟩ := mLt_some h
        exact ihM.1 _ _ _ _ _ h
      · obtain ⟨_, h⟩ := mGd_some h
        obtain ⟨_, h⟩ := mGd_some h
        rcases mIf_some h with ⟨_, h⟩ | ⟨_, h⟩
        · obtain ⟨_, h⟩ := mGd_some h
          obtain ⟨_, _, h⟩ := mLt_some h
          obtain ⟨_, _, h⟩ := mLt_some h
          exact ihM.2 _ _ _ _ _ _ h
        · obtain ⟨_, _, h⟩ := mLt_some h
          exact ihM.2 _ _ _ _ _ _ h
set_option maxHeartbeats 4000000 in
set_option maxRecDepth 100000 in
theorem MX10_writeSteps {F : Nat} {Ln Ln1 : Nat → Nat} {V V1 : mV} {v : Unit} {l1A : Nat} {l2I : Int32} (h : mX10_writeSteps F Ln l1A l2I V = some (v, Ln1, V1)) : mP Ln1 ≤ mP Ln := by
  have ihM := MX10_writeSteps_go (F := F) (v := v) (Ln1 := Ln1) (V1 := V1) F
  unfold mX10_writeSteps mX10_writeSteps_s at h
  obtain ⟨_, _, _, z2, h⟩ := mBA_some h
  refine Nat.le_trans ?_ (MX9_add z2)
  obtain ⟨_, h⟩ := mGd_some h
  obtain ⟨_, _, h⟩ := mLt_some h
  exact ihM.1 _ _ _ _ _ h
set_option maxHeartbeats 4000000 in
set_option maxRecDepth 100000 in
theorem LX10_writeSteps_go {α : Nat → Nat} {k0 n0 : Nat} {F : Nat} {v : Unit} {Ln1 : Nat → Nat} {V1 : mV} {Φ : (Unit → wPS → Prop)} : ∀ k' : Nat, (∀ (l1A : Nat) (l3I : Int32) (l4I : Int32) (S : wPS) (V : mV) (Ln : Nat → Nat) (c s : Nat), mRel α S Ln V → mK l1A = 3 → mX10_writeSteps_go F k' 0 Ln l1A l3I l4I 0 0 V = some (v, Ln1, V1) → c + (mP Ln - mP Ln1) / 16 ≤ k0 → s + (mP Ln - mP Ln1) ≤ n0 → (∀ S1, mRel α S1 Ln1 V1 → mFr α S S1 → Φ v S1) → rX10_writeSteps_go F k0 n0 k' 0 c s (α 7) (α l1A) l3I l4I 0 0 S Φ) ∧ (∀ (l1A : Nat) (l4I : Int32) (l5I : Int32) (l6I : Int32) (S : wPS) (V : mV) (Ln : Nat → Nat) (c s : Nat), mRel α S Ln V → mK l1A = 3 → mX10_writeSteps_go F k' 1 Ln l1A 0 l4I l5I l6I V = some (v, Ln1, V1) → c + (mP Ln - mP Ln1) / 16 ≤ k0 → s + (mP Ln - mP Ln1) ≤ n0 → (∀ S1, mRel α S1 Ln1 V1 → mFr α S S1 → Φ v S1) → rX10_writeSteps_go F k0 n0 k' 1 c s (α 7) (α l1A) 0 l4I l5I l6I S Φ) := by
  intro k'
  induction k' with
  | zero => exact ⟨(fun _ _ _ _ _ _ _ _ _ _ h _ _ _ => by cases h), (fun _ _ _ _ _ _ _ _ _ _ _ h _ _ _ => by cases h)⟩
  | succ k' ih =>
    have ihM := MX10_writeSteps_go (F := F) (v := v) (Ln1 := Ln1) (V1 := V1) k'
    refine ⟨?_, ?_⟩
    · intro l1A l3I l4I S V Ln c s R sl1A h hk hn k
      rw [mX10_writeSteps_go, if_pos rfl] at h
      rw [rX10_writeSteps_go, if_pos rfl]
      unfold mX10_writeSteps_b0 at h
      unfold rX10_writeSteps_b0
      refine mIf h Iff.rfl (fun c3 h => ?_) (fun c3 h => ?_)
      · obtain ⟨rfl, rfl, rfl⟩ := mRA3 h
        exact k _ R mFr.rf
      · obtain ⟨v2, V3, hv2, h⟩ := mBW_some h
        refine LX10_findNext hv2 R sl1A rfl rfl rfl (fun S3 R3 F3 => ?_)
        exact ih.2 _ _ _ _ _ _ _ _ _ R3 sl1A h (by omega) (by omega) (fun S1 R1 F1 => k S1 R1 (F3.tr F1))
    · intro l1A l4I l5I l6I S V Ln c s R sl1A h hk hn k
      rw [mX10_writeSteps_go, if_neg (by decide), if_pos rfl] at h
      rw [rX10_writeSteps_go, if_neg (by decide), if_pos rfl]
      unfold mX10_writeSteps_b1 at h
      unfold rX10_writeSteps_b1
      refine mIf h (by rw [show gWords_nextCount S (α 7) = V.fI 7 9 from (mg_I (i := 7) R (by decide) rfl 9)]) (fun c4 h => ?_) (fun c4 h => ?_)
      · obtain ⟨v8, L9, V9, hv8, h⟩ := mBA_some h
        have mv8 : mP L9 ≤ mP Ln := MX9_add hv8
        have qv8 : mP Ln1 ≤ mP L9 := by
          obtain ⟨_, _, h⟩ := mLt_some h
          exact ihM.1 _ _ _ _ _ h
        refine ⟨(mP Ln - mP L9) / 16, mP Ln - mP L9, by omega, by omega, ?_⟩
        refine LX9_add hv8 R (mKe2 sl1A) (mg_A (t := (l1A + 2)) R (mRe sl1A rfl) rfl) rfl (by omega) (by omega) (fun S9 R9 F9 => ?_)
        refine mLet h rfl (fun x13 ex13 h => ?_)
        exact ih.1 _ _ _ _ _ _ _ _ R9 sl1A h (by omega) (by omega) (fun S1 R1 F1 => k S1 R1 (F9.tr F1))
      · refine mGd h (by rw [show S.len (wkAd (gWords_next S (α 7))) = 96 from (mg_len (i := 83) R (mA13 rfl) (mg_A (t := 83) R rfl rfl))]) (fun c5 h => ?_)
        refine mGd h (by rw [show S.rI (wkAd (gWords_next S (α 7))) (l6I).toNatClampNeg = V.rI 83 (l6I).toNatClampNeg from (mg_rI (i := 83) R (mA13 rfl) (mg_A (t := 83) R rfl rfl) rfl), show S.len (wkAd (gWords_steps S (α 7))) = 256 from (mg_len (i := 82) R (mA13 rfl) (mg_A (t := 82) R rfl rfl))]) (fun c6 h => ?_)
        refine mIf h (by rw [show S.rI (wkAd (gWords_steps S (α 7))) ((S.rI (wkAd (gWords_next S (α 7))) (l6I).toNatClampNeg)).toNatClampNeg = V.rI 82 ((V.rI 83 (l6I).toNatClampNeg)).toNatClampNeg from (mg_rI (i := 82) R (mA13 rfl) (mg_A (t := 82) R rfl rfl) (by rw [show S.rI (wkAd (gWords_next S (α 7))) (l6I).toNatClampNeg = V.rI 83 (l6I).toNatClampNeg from (mg_rI (i := 83) R (mA13 rfl) (mg_A (t := 83) R rfl rfl) rfl)]))]) (fun c7 h => ?_) (fun c7 h => ?_)
        · refine mGd h (by rw [show S.len (wkAd (gWords_next S (α 7))) = 96 from (mg_len (i := 83) R (mA13 rfl) (mg_A (t := 83) R rfl rfl))]) (fun c8 h => ?_)
          refine mLet h (by rw [show S.rI (wkAd (gWords_next S (α 7))) (l6I).toNatClampNeg = V.rI 83 (l6I).toNatClampNeg from (mg_rI (i := 83) R (mA13 rfl) (mg_A (t := 83) R rfl rfl) rfl)]) (fun x19 ex19 h => ?_)
          refine mLet h rfl (fun x20 ex20 h => ?_)
          exact ih.2 _ _ _ _ _ _ _ _ _ R sl1A h (by omega) (by omega) (fun S1 R1 F1 => k S1 R1 F1)
        · refine mLet h rfl (fun x17 ex17 h => ?_)
          exact ih.2 _ _ _ _ _ _ _ _ _ R sl1A h (by omega) (by omega) (fun S1 R1 F1 => k S1 R1 F1)
set_option maxHeartbeats 4000000 in
set_option maxRecDepth 100000 in
theorem LX10_writeSteps {α : Nat → Nat} {F : Nat} {S : wPS} {Ln Ln1 : Nat → Nat} {V V1 : mV} {v : Unit} {Φ : (Unit → wPS → Prop)} {l0Ax : Nat} {l1Ax : Nat} {l1A : Nat} {l2Ix l2I : Int32} {k0 n0 : Nat} (h : mX10_writeSteps F Ln l1A l2I V = some (v, Ln1, V1)) (R : mRel α S Ln V) (sl1A : mK l1A = 3) (el0A : l0Ax = α 7) (el1A : l1Ax = α l1A) (el2I : l2Ix = l2I) (hk : (mP Ln - mP Ln1) / 16 ≤ k0) (hn : mP Ln - mP Ln1 ≤ n0) (k : (∀ S1, mRel α S1 Ln1 V1 → mFr α S S1 → Φ v S1)) : rX10_writeSteps F k0 n0 l0Ax l1Ax l2Ix S Φ := by
  have el0A := el0A.symm
  subst el0A
  have el1A := el1A.symm
  subst el1A
  have el2I := el2I.symm
  subst el2I
  have ih := LX10_writeSteps_go  (α := α) (F := F) (v := v) (k0 := k0) (n0 := n0) (Ln1 := Ln1) (Φ := Φ) (V1 := V1) F
  have ihM := MX10_writeSteps_go (F := F) (v := v) (Ln1 := Ln1) (V1 := V1) F
  unfold mX10_writeSteps mX10_writeSteps_s at h
  unfold rX10_writeSteps rX10_writeSteps_s
  obtain ⟨v21, L22, V22, hv21, h⟩ := mBA_some h
  have mv21 : mP L22 ≤ mP Ln := MX9_add hv21
  have qv21 : mP Ln1 ≤ mP L22 := by
    obtain ⟨_, h⟩ := mGd_some h
    obtain ⟨_, _, h⟩ := mLt_some h
    exact ihM.1 _ _ _ _ _ h
  refine ⟨(mP Ln - mP L22) / 16, mP Ln - mP L22, by omega, by omega, ?_⟩
  refine LX9_add hv21 R (mKe2 sl1A) (mg_A (t := (l1A + 2)) R (mRe sl1A rfl) rfl) rfl (by omega) (by omega) (fun S22 R22 F22 => ?_)
  refine mGd h (by rw [show S22.len (wkAd (gWords_steps S22 (α 7))) = 256 from (mg_len (i := 82) R22 (mA13 rfl) (mg_A (t := 82) R22 rfl rfl))]) (fun c9 h => ?_)
  refine mLet h (by rw [show S22.rI (wkAd (gWords_steps S22 (α 7))) (l2I).toNatClampNeg = V22.rI 82 (l2I).toNatClampNeg from (mg_rI (i := 82) R22 (mA13 rfl) (mg_A (t := 82) R22 rfl rfl) rfl)]) (fun x27 ex27 h => ?_)
  exact ih.1 _ _ _ _ _ _ _ _ R22 sl1A h (by omega) (by omega) (fun S1 R1 F1 => k S1 R1 (F22.tr F1))
def mX10_isNext_b0 (F : Nat) (rec : Nat → Int32 → Int32 → mV → Option (Int32 × mV)) (l3I : Int32) (l4I : Int32) (V : mV) : Option (Int32 × mV) :=
  (if (V.fI 7 9) ≤ l4I then some ((0 : Int32), V) else (if l4I < 0 ∨ 96 ≤ (l4I).toNatClampNeg then none else (if (V.rI 83 (l4I).toNatClampNeg) = l3I then some ((1 : Int32), V) else (mLt (l4I + (1 : Int32)) fun x4 => (rec 0 (l3I) (x4) V)))))
def mX10_isNext_go (F : Nat) : Nat → Nat → Int32 → Int32 → mV → Option (Int32 × mV)
  | 0, _, _, _, _ => none
  | k' + 1, lab, l3I, l4I, V => if lab = 0 then mX10_isNext_b0 F (mX10_isNext_go F k') l3I l4I V else none
def mX10_isNext_s (F : Nat) (rec : Nat → Int32 → Int32 → mV → Option (Int32 × mV)) (l1A : Nat) (l2I : Int32) (l3I : Int32) (V : mV) : Option (Int32 × mV) :=
  (mBW (mX10_findNext F l1A (l2I) V) fun v5 V6 => (rec 0 (l3I) ((0 : Int32)) V6))
def mX10_isNext (F : Nat) (l1A : Nat) (l2I : Int32) (l3I : Int32) (V : mV) : Option (Int32 × mV) := mX10_isNext_s F (mX10_isNext_go F F) l1A l2I l3I V
set_option maxHeartbeats 4000000 in
set_option maxRecDepth 100000 in
theorem LX10_isNext_go {α : Nat → Nat} {F : Nat} {Ln : Nat → Nat} {v : Int32} {V1 : mV} {Φ : (Int32 → wPS → Prop)} : ∀ k' : Nat, (∀ (l3I : Int32) (l4I : Int32) (S : wPS) (V : mV) , mRel α S Ln V → mX10_isNext_go F k' 0 l3I l4I V = some (v, V1) → (∀ S1, mRel α S1 Ln V1 → mFr α S S1 → Φ v S1) → rX10_isNext_go F k' 0 (α 7) l3I l4I S Φ) := by
  intro k'
  induction k' with
  | zero => exact (fun _ _ _ _ _ h _ => by cases h)
  | succ k' ih =>
    intro l3I l4I S V R h k
    rw [mX10_isNext_go, if_pos rfl] at h
    rw [rX10_isNext_go, if_pos rfl]
    unfold mX10_isNext_b0 at h
    unfold rX10_isNext_b0
    refine mIf h (by rw [show gWords_nextCount S (α 7) = V.fI 7 9 from (mg_I (i := 7) R (by decide) rfl 9)]) (fun c1 h => ?_) (fun c1 h => ?_)
    · obtain ⟨rfl, rfl⟩ := mRW h
      exact k _ R mFr.rf
    · refine mGd h (by rw [show S.len (wkAd (gWords_next S (α 7))) = 96 from (mg_len (i := 83) R (mA13 rfl) (mg_A (t := 83) R rfl rfl))]) (fun c2 h => ?_)
      refine mIf h (by rw [show S.rI (wkAd (gWords_next S (α 7))) (l4I).toNatClampNeg = V.rI 83 (l4I).toNatClampNeg from (mg_rI (i := 83) R (mA13 rfl) (mg_A (t := 83) R rfl rfl) rfl)]) (fun c3 h => ?_) (fun c3 h => ?_)
      · obtain ⟨rfl, rfl⟩ := mRW h
        exact k _ R mFr.rf
      · refine mLet h rfl (fun x4 ex4 h => ?_)
        exact ih _ _ _ _ R h (fun S1 R1 F1 => k S1 R1 F1)
set_option maxHeartbeats 4000000 in
set_option maxRecDepth 100000 in
theorem LX10_isNext {α : Nat → Nat} {F : Nat} {S : wPS} {Ln : Nat → Nat} {V V1 : mV} {v : Int32} {Φ : (Int32 → wPS → Prop)} {l0Ax : Nat} {l1Ax : Nat} {l1A : Nat} {l2Ix l2I : Int32} {l3Ix l3I : Int32} (h : mX10_isNext F l1A l2I l3I V = some (v, V1)) (R : mRel α S Ln V) (sl1A : mK l1A = 3) (el0A : l0Ax = α 7) (el1A : l1Ax = α l1A) (el2I : l2Ix = l2I) (el3I : l3Ix = l3I) (k : (∀ S1, mRel α S1 Ln V1 → mFr α S S1 → Φ v S1)) : rX10_isNext F l0Ax l1Ax l2Ix l3Ix S Φ := by
  have el0A := el0A.symm
  subst el0A
  have el1A := el1A.symm
  subst el1A
  have el2I := el2I.symm
  subst el2I
  have el3I := el3I.symm
  subst el3I
  have ih := LX10_isNext_go  (α := α) (F := F) (v := v) (Ln := Ln) (Φ := Φ) (V1 := V1) F
  unfold mX10_isNext mX10_isNext_s at h
  unfold rX10_isNext rX10_isNext_s
  obtain ⟨v5, V6, hv5, h⟩ := mBW_some h
  refine LX10_findNext hv5 R sl1A rfl rfl rfl (fun S6 R6 F6 => ?_)
  exact ih _ _ _ _ R6 h (fun S1 R1 F1 => k S1 R1 (F6.tr F1))
def mX10_judgeClosure_b0 (F : Nat) (rec : Nat → (Nat → Nat) → Nat → Nat → Int32 → Int32 → mV → Option (Int32 × mV)) (Ln : Nat → Nat) (l1A : Nat) (l2A : Nat) (l5I : Int32) (V : mV) : Option (Int32 × mV) :=
  (if (V.fI l2A 1) ≤ l5I then some ((0 : Int32), V) else (mBN (mX9_at F Ln l2A (l5I) V) fun v2 => (mBW (mX10_findNext F l1A (v2) V) fun v7 V8 => (rec 1 Ln l1A l2A (l5I) ((0 : Int32)) V8))))
def mX10_judgeClosure_b1 (F : Nat) (rec : Nat → (Nat → Nat) → Nat → Nat → Int32 → Int32 → mV → Option (Int32 × mV)) (Ln : Nat → Nat) (l1A : Nat) (l2A : Nat) (l5I : Int32) (l6I : Int32) (V : mV) : Option (Int32 × mV) :=
  (if (V.fI 7 9) ≤ l6I then (mLt (l5I + (1 : Int32)) fun x13 => (rec 0 Ln l1A l2A (x13) 0 V)) else (if l6I < 0 ∨ 96 ≤ (l6I).toNatClampNeg then none else (mBN (mX9_holds F Ln l2A ((0 : Int32)) ((V.rI 83 (l6I).toNatClampNeg)) V) fun v15 => (if v15 = 0 then some ((3 : Int32), V) else (mLt (l6I + (1 : Int32)) fun x21 => (rec 1 Ln l1A l2A (l5I) (x21) V))))))
def mX10_judgeClosure_go (F : Nat) : Nat → Nat → (Nat → Nat) → Nat → Nat → Int32 → Int32 → mV → Option (Int32 × mV)
  | 0, _, _, _, _, _, _, _ => none
  | k' + 1, lab, Ln, l1A, l2A, l5I, l6I, V => if lab = 0 then mX10_judgeClosure_b0 F (mX10_judgeClosure_go F k') Ln l1A l2A l5I V else if lab = 1 then mX10_judgeClosure_b1 F (mX10_judgeClosure_go F k') Ln l1A l2A l5I l6I V else none
def mX10_judgeClosure_s (F : Nat) (rec : Nat → (Nat → Nat) → Nat → Nat → Int32 → Int32 → mV → Option (Int32 × mV)) (Ln : Nat → Nat) (l1A : Nat) (l2A : Nat) (V : mV) : Option (Int32 × mV) :=
  (mBN (mX10_beyondWords F l1A V) fun v22 => (mBN (mX9_liesWithin F Ln l2A ((0 : Int32)) ((1 : Int32)) ((v22 - (1 : Int32))) V) fun v27 => (if v27 = 0 then some ((1 : Int32), V) else (mBN (mX9_isRising F Ln l2A ((0 : Int32)) V) fun v33 => (if v33 = 0 then some ((1 : Int32), V) else (mBN (mX10_firstWord F l1A V) fun v39 => (if v22 ≤ v39 then (mBN (mX10_secondWord F l1A V) fun v45 => (mBN (mX9_holds F Ln l2A ((0 : Int32)) (v45) V) fun v50 => (if v50 = 0 then (rec 0 Ln l1A l2A ((0 : Int32)) 0 V) else some ((2 : Int32), V)))) else (mBN (mX9_holds F Ln l2A ((0 : Int32)) (v39) V) fun v56 => (if v56 = 0 then some ((2 : Int32), V) else (mBN (mX10_secondWord F l1A V) fun v62 => (mBN (mX9_holds F Ln l2A ((0 : Int32)) (v62) V) fun v67 => (if v67 = 0 then (rec 0 Ln l1A l2A ((0 : Int32)) 0 V) else some ((2 : Int32), V)))))))))))))
def mX10_judgeClosure (F : Nat) (Ln : Nat → Nat) (l1A : Nat) (l2A : Nat) (V : mV) : Option (Int32 × mV) := mX10_judgeClosure_s F (mX10_judgeClosure_go F F) Ln l1A l2A V
set_option maxHeartbeats 4000000 in
set_option maxRecDepth 100000 in
theorem LX10_judgeClosure_go {α : Nat → Nat} {F : Nat} {v : Int32} {V1 : mV} {Φ : (Int32 → wPS → Prop)} : ∀ k' : Nat, (∀ (l1A : Nat) (l2A : Nat) (l5I : Int32) (S : wPS) (V : mV) (Ln : Nat → Nat) , mRel α S Ln V → mK l1A = 3 → mK l2A = 9 → mX10_judgeClosure_go F k' 0 Ln l1A l2A l5I 0 V = some (v, V1) → (∀ S1, mRel α S1 Ln V1 → mFr α S S1 → Φ v S1) → rX10_judgeClosure_go F k' 0 (α 7) (α l1A) (α l2A) l5I 0 S Φ) ∧ (∀ (l1A : Nat) (l2A : Nat) (l5I : Int32) (l6I : Int32) (S : wPS) (V : mV) (Ln : Nat → Nat) , mRel α S Ln V → mK l1A = 3 → mK l2A = 9 → mX10_judgeClosure_go F k' 1 Ln l1A l2A l5I l6I V = some (v, V1) → (∀ S1, mRel α S1 Ln V1 → mFr α S S1 → Φ v S1) → rX10_judgeClosure_go F k' 1 (α 7) (α l1A) (α l2A) l5I l6I S Φ) := by
  intro k'
  induction k' with
  | zero => exact ⟨(fun _ _ _ _ _ _ _ _ _ h _ => by cases h), (fun _ _ _ _ _ _ _ _ _ _ h _ => by cases h)⟩
  | succ k' ih =>
    refine ⟨?_, ?_⟩
    · intro l1A l2A l5I S V Ln R sl1A sl2A h k
      rw [mX10_judgeClosure_go, if_pos rfl] at h
      rw [rX10_judgeClosure_go, if_pos rfl]
      unfold mX10_judgeClosure_b0 at h
      unfold rX10_judgeClosure_b0
      refine mIf h (by rw [show gRow_count S (α l2A) = V.fI l2A 1 from (mg_I (i := l2A) R (mO9 sl2A) rfl 1)]) (fun c1 h => ?_) (fun c1 h => ?_)
      · obtain ⟨rfl, rfl⟩ := mRW h
        exact k _ R mFr.rf
      · obtain ⟨v2, hv2, h⟩ := mBN_some h
        refine LX9_at hv2 R sl2A rfl rfl ?_
        obtain ⟨v7, V8, hv7, h⟩ := mBW_some h
        refine LX10_findNext hv7 R sl1A rfl rfl rfl (fun S8 R8 F8 => ?_)
        exact ih.2 _ _ _ _ _ _ _ R8 sl1A sl2A h (fun S1 R1 F1 => k S1 R1 (F8.tr F1))
    · intro l1A l2A l5I l6I S V Ln R sl1A sl2A h k
      rw [mX10_judgeClosure_go, if_neg (by decide), if_pos rfl] at h
      rw [rX10_judgeClosure_go, if_neg (by decide), if_pos rfl]
      unfold mX10_judgeClosure_b1 at h
      unfold rX10_judgeClosure_b1
      refine mIf h (by rw [show gWords_nextCount S (α 7) = V.fI 7 9 from (mg_I (i := 7) R (by decide) rfl 9)]) (fun c2 h => ?_) (fun c2 h => ?_)
      · refine mLet h rfl (fun x13 ex13 h => ?_)
        exact ih.1 _ _ _ _ _ _ R sl1A sl2A h (fun S1 R1 F1 => k S1 R1 F1)
      · refine mGd h (by rw [show S.len (wkAd (gWords_next S (α 7))) = 96 from (mg_len (i := 83) R (mA13 rfl) (mg_A (t := 83) R rfl rfl))]) (fun c3 h => ?_)
        obtain ⟨v15, hv15, h⟩ := mBN_some h
        refine LX9_holds hv15 R sl2A rfl rfl (by rw [show S.rI (wkAd (gWords_next S (α 7))) (l6I).toNatClampNeg = V.rI 83 (l6I).toNatClampNeg from (mg_rI (i := 83) R (mA13 rfl) (mg_A (t := 83) R rfl rfl) rfl)]) ?_
        refine mIf h Iff.rfl (fun c4 h => ?_) (fun c4 h => ?_)
        · obtain ⟨rfl, rfl⟩ := mRW h
          exact k _ R mFr.rf
        · refine mLet h rfl (fun x21 ex21 h => ?_)
          exact ih.2 _ _ _ _ _ _ _ R sl1A sl2A h (fun S1 R1 F1 => k S1 R1 F1)
set_option maxHeartbeats 4000000 in
set_option maxRecDepth 100000 in
theorem LX10_judgeClosure {α : Nat → Nat} {F : Nat} {S : wPS} {Ln : Nat → Nat} {V V1 : mV} {v : Int32} {Φ : (Int32 → wPS → Prop)} {l0Ax : Nat} {l1Ax : Nat} {l1A : Nat} {l2Ax : Nat} {l2A : Nat} (h : mX10_judgeClosure F Ln l1A l2A V = some (v, V1)) (R : mRel α S Ln V) (sl1A : mK l1A = 3) (sl2A : mK l2A = 9) (el0A : l0Ax = α 7) (el1A : l1Ax = α l1A) (el2A : l2Ax = α l2A) (k : (∀ S1, mRel α S1 Ln V1 → mFr α S S1 → Φ v S1)) : rX10_judgeClosure F l0Ax l1Ax l2Ax S Φ := by
  have el0A := el0A.symm
  subst el0A
  have el1A := el1A.symm
  subst el1A
  have el2A := el2A.symm
  subst el2A
  have ih := LX10_judgeClosure_go  (α := α) (F := F) (v := v) (Φ := Φ) (V1 := V1) F
  unfold mX10_judgeClosure mX10_judgeClosure_s at h
  unfold rX10_judgeClosure rX10_judgeClosure_s
  obtain ⟨v22, hv22, h⟩ := mBN_some h
  refine LX10_beyondWords hv22 R sl1A rfl ?_
  obtain ⟨v27, hv27, h⟩ := mBN_some h
  refine LX9_liesWithin hv27 R sl2A rfl rfl rfl rfl ?_
  refine mIf h Iff.rfl (fun c5 h => ?_) (fun c5 h => ?_)
  · obtain ⟨rfl, rfl⟩ := mRW h
    exact k _ R mFr.rf
  · obtain ⟨v33, hv33, h⟩ := mBN_some h
    refine LX9_isRising hv33 R sl2A rfl rfl ?_
    refine mIf h Iff.rfl (fun c6 h => ?_) (fun c6 h => ?_)
    · obtain ⟨rfl, rfl⟩ := mRW h
      exact k _ R mFr.rf
    · obtain ⟨v39, hv39, h⟩ := mBN_some h
      refine LX10_firstWord hv39 R sl1A rfl ?_
      refine mIf h Iff.rfl (fun c7 h => ?_) (fun c7 h => ?_)
      · obtain ⟨v45, hv45, h⟩ := mBN_some h
        refine LX10_secondWord hv45 R sl1A rfl ?_
        obtain ⟨v50, hv50, h⟩ := mBN_some h
        refine LX9_holds hv50 R sl2A rfl rfl rfl ?_
        refine mIf h Iff.rfl (fun c8 h => ?_) (fun c8 h => ?_)
        · exact ih.1 _ _ _ _ _ _ R sl1A sl2A h (fun S1 R1 F1 => k S1 R1 F1)
        · obtain ⟨rfl, rfl⟩ := mRW h
          exact k _ R mFr.rf
      · obtain ⟨v56, hv56, h⟩ := mBN_some h
        refine LX9_holds hv56 R sl2A rfl rfl rfl ?_
        refine mIf h Iff.rfl (fun c9 h => ?_) (fun c9 h => ?_)
        · obtain ⟨rfl, rfl⟩ := mRW h
          exact k _ R mFr.rf
        · obtain ⟨v62, hv62, h⟩ := mBN_some h
          refine LX10_secondWord hv62 R sl1A rfl ?_
          obtain ⟨v67, hv67, h⟩ := mBN_some h
          refine LX9_holds hv67 R sl2A rfl rfl rfl ?_
          refine mIf h Iff.rfl (fun c10 h => ?_) (fun c10 h => ?_)
          · exact ih.1 _ _ _ _ _ _ R sl1A sl2A h (fun S1 R1 F1 => k S1 R1 F1)
          · obtain ⟨rfl, rfl⟩ := mRW h
            exact k _ R mFr.rf
def mX11_undo (F : Nat) (Ln : Nat → Nat) (V : mV) : Option ((String ⊕ Int32) × (Nat → Nat) × mV) :=
  (if (V.fI 0 10) = 0 then (mTh Ln "java/util/NoSuchElementException" V) else (mLt (mF V 0 10 (((V.fI 0 10) - (1 : Int32)))) fun V2 => (mLt (((V2.fI 0 9) + (V2.fI 0 10)) - ((V2.fI 0 9) + (V2.fI 0 10)) / (24 : Int32) * (24 : Int32)) fun x3 => (if x3 < 0 ∨ 24 ≤ (x3).toNatClampNeg then none else (mLt (V2.rI 14 (x3).toNatClampNeg) fun x5 => (if x3 < 0 ∨ 24 ≤ (x3).toNatClampNeg then none else (mLt (V2.rI 15 (x3).toNatClampNeg) fun x7 => (if x5 = (111 : Int32) then (mBW (mX11_forgetEntry F (x7) V2) fun v9 V10 => (if ¬ (((x5 : Int32).toUInt32 % 65536).toInt32 = x5) then none else some ((.inr (x5)), Ln, V10))) else (if x5 = (121 : Int32) then (mBW (mX11_forgetEntry F (x7) V2) fun v29 V30 => (if ¬ (((x5 : Int32).toUInt32 % 65536).toInt32 = x5) then none else some ((.inr (x5)), Ln, V30))) else (if x7 < 0 ∨ 12 ≤ (x7).toNatClampNeg then none else (if x3 < 0 ∨ 24 ≤ (x3).toNatClampNeg then none else (mBW (mX3_copyQuestion F (256 + 8 * (x7).toNatClampNeg) (352 + 8 * (x3).toNatClampNeg) V2) fun v20 V21 => (if x7 < 0 ∨ 12 ≤ (x7).toNatClampNeg then none else (mLt (mF V21 (256 + 8 * (x7).toNatClampNeg) 9 ((0 : Int32))) fun V27 => (if ¬ (((x5 : Int32).toUInt32 % 65536).toInt32 = x5) then none else some ((.inr (x5)), Ln, V27))))))))))))))))
set_option maxHeartbeats 4000000 in
set_option maxRecDepth 100000 in
theorem MX11_undo {F : Nat} {Ln Ln1 : Nat → Nat} {V V1 : mV} {v : (String ⊕ Int32)} (h : mX11_undo F Ln V = some (v, Ln1, V1)) : mP Ln1 ≤ mP Ln := by
  unfold mX11_undo at h
  rcases mIf_some h with ⟨_, h⟩ | ⟨_, h⟩
  · obtain ⟨rfl, rfl, rfl, hth⟩ := mTh_some h
    omega
  · obtain ⟨_, _, h⟩ := mLt_some h
    obtain ⟨_, _, h⟩ := mLt_some h
    obtain ⟨_, h⟩ := mGd_some h
    obtain ⟨_, _, h⟩ := mLt_some h
    obtain ⟨_, h⟩ := mGd_some h
    obtain ⟨_, _, h⟩ := mLt_some h
    rcases mIf_some h with ⟨_, h⟩ | ⟨_, h⟩
    · obtain ⟨_, _, _, h⟩ := mBW_some h
      obtain ⟨_, h⟩ := mGd_some h
      cases h
      exact Nat.le_refl _
    · rcases mIf_some h with ⟨_, h⟩ | ⟨_, h⟩
      · obtain ⟨_, _, _, h⟩ := mBW_some h
        obtain ⟨_, h⟩ := mGd_some h
        cases h
        exact Nat.le_refl _
      · obtain ⟨_, h⟩ := mGd_some h
        obtain ⟨_, h⟩ := mGd_some h
        obtain ⟨_, _, _, h⟩ := mBW_some h
        obtain ⟨_, h⟩ := mGd_some h
        obtain ⟨_, _, h⟩ := mLt_some h
        obtain ⟨_, h⟩ := mGd_some h
        cases h
        exact Nat.le_refl _
set_option maxHeartbeats 4000000 in
set_option maxRecDepth 100000 in
theorem LX11_undo {α : Nat → Nat} {F : Nat} {S : wPS} {Ln Ln1 : Nat → Nat} {V V1 : mV} {v : (String ⊕ Int32)} {Φ : (Int32 → wPS → Prop)} {Ψ : String → wPS → Prop} {l0Ax : Nat} {k0 n0 : Nat} (h : mX11_undo F Ln V = some (v, Ln1, V1)) (R : mRel α S Ln V) (el0A : l0Ax = α 0) (hk : (mP Ln - mP Ln1) / 16 ≤ k0) (hn : mP Ln - mP Ln1 ≤ n0) (k : (∀ S1, mRel α S1 Ln1 V1 → mFr α S S1 → mOut Φ Ψ v S1)) : rX11_undo F k0 n0 l0Ax S Φ Ψ := by
  have el0A := el0A.symm
  subst el0A
  unfold mX11_undo at h
  unfold rX11_undo
  refine mIf h (by rw [show gWitnessworks_changeCount S (α 0) = V.fI 0 10 from (mg_I (i := 0) R (by decide) rfl 10)]) (fun c1 h => ?_) (fun c1 h => ?_)
  · obtain ⟨rfl, rfl, rfl, hth⟩ := mTh_some h
    exact ⟨by omega, by omega, k _ (mRel_th R) mFr.rf⟩
  · obtain ⟨V2, eV2, h⟩ := mLt_some h
    refine mU_F eV2 R (by decide) rfl (by rw [show gWitnessworks_changeCount S (α 0) = V.fI 0 10 from (mg_I (i := 0) R (by decide) rfl 10)]) (fun S2 R2 F2 => ?_)
    refine mLet h (by rw [show gWitnessworks_firstChange S2 (α 0) = V2.fI 0 9 from (mg_I (i := 0) R2 (by decide) rfl 9), show gWitnessworks_changeCount S2 (α 0) = V2.fI 0 10 from (mg_I (i := 0) R2 (by decide) rfl 10)]) (fun x3 ex3 h => ?_)
    refine mGd h (by rw [show S2.len (wkAd (gWitnessworks_changeLetters S2 (α 0))) = 24 from (mg_len (i := 14) R2 (mA12 rfl) (mg_A (t := 14) R2 rfl rfl))]) (fun c2 h => ?_)
    refine mLet h (by rw [show S2.rI (wkAd (gWitnessworks_changeLetters S2 (α 0))) (x3).toNatClampNeg = V2.rI 14 (x3).toNatClampNeg from (mg_rI (i := 14) R2 (mA12 rfl) (mg_A (t := 14) R2 rfl rfl) rfl)]) (fun x5 ex5 h => ?_)
    refine mGd h (by rw [show S2.len (wkAd (gWitnessworks_changedEntries S2 (α 0))) = 24 from (mg_len (i := 15) R2 (mA13 rfl) (mg_A (t := 15) R2 rfl rfl))]) (fun c3 h => ?_)
    refine mLet h (by rw [show S2.rI (wkAd (gWitnessworks_changedEntries S2 (α 0))) (x3).toNatClampNeg = V2.rI 15 (x3).toNatClampNeg from (mg_rI (i := 15) R2 (mA13 rfl) (mg_A (t := 15) R2 rfl rfl) rfl)]) (fun x7 ex7 h => ?_)
    refine mIf h Iff.rfl (fun c4 h => ?_) (fun c4 h => ?_)
    · obtain ⟨v9, V10, hv9, h⟩ := mBW_some h
      refine LX11_forgetEntry hv9 R2 rfl rfl (fun S10 R10 F10 => ?_)
      refine mGp h Iff.rfl (fun c5 h => ?_)
      obtain ⟨rfl, rfl, rfl⟩ := mRA3 h
      exact k _ R10 (F2.tr F10)
    · refine mIf h Iff.rfl (fun c6 h => ?_) (fun c6 h => ?_)
      · obtain ⟨v29, V30, hv29, h⟩ := mBW_some h
        refine LX11_forgetEntry hv29 R2 rfl rfl (fun S30 R30 F30 => ?_)
        refine mGp h Iff.rfl (fun c7 h => ?_)
        obtain ⟨rfl, rfl, rfl⟩ := mRA3 h
        exact k _ R30 (F2.tr F30)
      · refine mGd h (by rw [show S2.len (wkAd (gWitnessworks_book S2 (α 0))) = 12 from (mg_len (i := 10) R2 (mAr (by decide)) (mg_A (t := 10) R2 rfl rfl))]) (fun c8 h => ?_)
        refine mGd h (by rw [show S2.len (wkAd (gWitnessworks_before S2 (α 0))) = 24 from (mg_len (i := 13) R2 (mAr (by decide)) (mg_A (t := 13) R2 rfl rfl))]) (fun c9 h => ?_)
        obtain ⟨v20, V21, hv20, h⟩ := mBW_some h
        refine LX3_copyQuestion hv20 R2 (mKA10 (Nat.lt_of_not_le (fun z => c8 (Or.inr z)))) (mKA13 (Nat.lt_of_not_le (fun z => c9 (Or.inr z)))) (mg_RA R2 (mRA10 (Nat.lt_of_not_le (fun z => c8 (Or.inr z)))) (mg_A (t := 10) R2 rfl rfl) rfl) (mg_RA R2 (mRA13 (Nat.lt_of_not_le (fun z => c9 (Or.inr z)))) (mg_A (t := 13) R2 rfl rfl) rfl) (fun S21 R21 F21 => ?_)
        refine mGd h (by rw [show S21.len (wkAd (gWitnessworks_book S21 (α 0))) = 12 from (mg_len (i := 10) R21 (mAr (by decide)) (mg_A (t := 10) R21 rfl rfl))]) (fun c10 h => ?_)
        obtain ⟨V27, eV27, h⟩ := mLt_some h
        refine mU_F eV27 R21 (mO3 (mKA10 (Nat.lt_of_not_le (fun z => c10 (Or.inr z))))) (mg_RA R21 (mRA10 (Nat.lt_of_not_le (fun z => c10 (Or.inr z)))) (mg_A (t := 10) R21 rfl rfl) rfl) rfl (fun S27 R27 F27 => ?_)
        refine mGp h Iff.rfl (fun c11 h => ?_)
        obtain ⟨rfl, rfl, rfl⟩ := mRA3 h
        exact k _ R27 (F2.tr (F21.tr F27))
theorem LX11_undo_E {α : Nat → Nat} {F : Nat} {S : wPS} {Ln Ln1 : Nat → Nat} {V V1 : mV} {e : String} {Φ : (Int32 → wPS → Prop)} {Ψ : String → wPS → Prop} {l0Ax : Nat} {k0 n0 : Nat} (h : mX11_undo F Ln V = some (.inl e, Ln1, V1)) (R : mRel α S Ln V) (el0A : l0Ax = α 0) (hk : (mP Ln - mP Ln1) / 16 ≤ k0) (hn : mP Ln - mP Ln1 ≤ n0) (k : ∀ S1, mRel α S1 Ln1 V1 → mFr α S S1 → Ψ e S1) : rX11_undo F k0 n0 l0Ax S Φ Ψ := LX11_undo h R el0A hk hn k
theorem LX11_undo_V {α : Nat → Nat} {F : Nat} {S : wPS} {Ln Ln1 : Nat → Nat} {V V1 : mV} {a : Int32} {Φ : (Int32 → wPS → Prop)} {Ψ : String → wPS → Prop} {l0Ax : Nat} {k0 n0 : Nat} (h : mX11_undo F Ln V = some (.inr a, Ln1, V1)) (R : mRel α S Ln V) (el0A : l0Ax = α 0) (hk : (mP Ln - mP Ln1) / 16 ≤ k0) (hn : mP Ln - mP Ln1 ≤ n0) (k : ∀ S1, mRel α S1 Ln1 V1 → mFr α S S1 → Φ a S1) : rX11_undo F k0 n0 l0Ax S Φ Ψ := LX11_undo h R el0A hk hn k
def mX11_testItem (F : Nat) (Ln : Nat → Nat) (l1A : Nat) (l2I : Int32) (V : mV) : Option ((String ⊕ Unit) × (Nat → Nat) × mV) :=
  (mBN (mX4_isItemOf F l1A (l2I) 12 V) fun v1 => (if v1 = 0 then (mTh Ln "java/lang/IllegalArgumentException" V) else (mBN (mX4_isEdgeAgain F l1A (l2I) 12 V) fun v7 => (if v7 = 0 then some ((.inr (())), Ln, V) else (mTh Ln "java/lang/UnsupportedOperationException" V)))))
set_option maxHeartbeats 4000000 in
set_option maxRecDepth 100000 in
theorem MX11_testItem {F : Nat} {Ln Ln1 : Nat → Nat} {V V1 : mV} {v : (String ⊕ Unit)} {l1A : Nat} {l2I : Int32} (h : mX11_testItem F Ln l1A l2I V = some (v, Ln1, V1)) : mP Ln1 ≤ mP Ln := by
  unfold mX11_testItem at h
  obtain ⟨_, _, h⟩ := mBN_some h
  rcases mIf_some h with ⟨_, h⟩ | ⟨_, h⟩
  · obtain ⟨rfl, rfl, rfl, hth⟩ := mTh_some h
    omega
  · obtain ⟨_, _, h⟩ := mBN_some h
    rcases mIf_some h with ⟨_, h⟩ | ⟨_, h⟩
    · cases h
      exact Nat.le_refl _
    · obtain ⟨rfl, rfl, rfl, hth⟩ := mTh_some h
      omega
set_option maxHeartbeats 4000000 in
set_option maxRecDepth 100000 in
theorem LX11_testItem {α : Nat → Nat} {F : Nat} {S : wPS} {Ln Ln1 : Nat → Nat} {V V1 : mV} {v : (String ⊕ Unit)} {Φ : (Unit → wPS → Prop)} {Ψ : String → wPS → Prop} {l0Ax : Nat} {l1Ax : Nat} {l1A : Nat} {l2Ix l2I : Int32} {k0 n0 : Nat} (h : mX11_testItem F Ln l1A l2I V = some (v, Ln1, V1)) (R : mRel α S Ln V) (sl1A : mK l1A = 3) (el0A : l0Ax = α 0) (el1A : l1Ax = α l1A) (el2I : l2Ix = l2I) (hk : (mP Ln - mP Ln1) / 16 ≤ k0) (hn : mP Ln - mP Ln1 ≤ n0) (k : (∀ S1, mRel α S1 Ln1 V1 → mFr α S S1 → mOut Φ Ψ v S1)) : rX11_testItem F k0 n0 l0Ax l1Ax l2Ix S Φ Ψ := by
  have el0A := el0A.symm
  subst el0A
  have el1A := el1A.symm
  subst el1A
  have el2I := el2I.symm
  subst el2I
  unfold mX11_testItem at h
  unfold rX11_testItem
  obtain ⟨v1, hv1, h⟩ := mBN_some h
  refine LX4_isItemOf hv1 R sl1A rfl (mg_A (t := 1) R rfl rfl) rfl rfl (mg_A (t := 12) R rfl rfl) ?_
  refine mIf h Iff.rfl (fun c1 h => ?_) (fun c1 h => ?_)
  · obtain ⟨rfl, rfl, rfl, hth⟩ := mTh_some h
    exact ⟨by omega, by omega, k _ (mRel_th R) mFr.rf⟩
  · obtain ⟨v7, hv7, h⟩ := mBN_some h
    refine LX4_isEdgeAgain hv7 R sl1A rfl (mg_A (t := 1) R rfl rfl) rfl rfl (mg_A (t := 12) R rfl rfl) ?_
    refine mIf h Iff.rfl (fun c2 h => ?_) (fun c2 h => ?_)
    · obtain ⟨rfl, rfl, rfl⟩ := mRA3 h
      exact k _ R mFr.rf
    · obtain ⟨rfl, rfl, rfl, hth⟩ := mTh_some h
      exact ⟨by omega, by omega, k _ (mRel_th R) mFr.rf⟩
theorem LX11_testItem_E {α : Nat → Nat} {F : Nat} {S : wPS} {Ln Ln1 : Nat → Nat} {V V1 : mV} {e : String} {Φ : (Unit → wPS → Prop)} {Ψ : String → wPS → Prop} {l0Ax : Nat} {l1Ax : Nat} {l1A : Nat} {l2Ix l2I : Int32} {k0 n0 : Nat} (h : mX11_testItem F Ln l1A l2I V = some (.inl e, Ln1, V1)) (R : mRel α S Ln V) (sl1A : mK l1A = 3) (el0A : l0Ax = α 0) (el1A : l1Ax = α l1A) (el2I : l2Ix = l2I) (hk : (mP Ln - mP Ln1) / 16 ≤ k0) (hn : mP Ln - mP Ln1 ≤ n0) (k : ∀ S1, mRel α S1 Ln1 V1 → mFr α S S1 → Ψ e S1) : rX11_testItem F k0 n0 l0Ax l1Ax l2Ix S Φ Ψ := LX11_testItem h R sl1A el0A el1A el2I hk hn k
theorem LX11_testItem_V {α : Nat → Nat} {F : Nat} {S : wPS} {Ln Ln1 : Nat → Nat} {V V1 : mV} {a : Unit} {Φ : (Unit → wPS → Prop)} {Ψ : String → wPS → Prop} {l0Ax : Nat} {l1Ax : Nat} {l1A : Nat} {l2Ix l2I : Int32} {k0 n0 : Nat} (h : mX11_testItem F Ln l1A l2I V = some (.inr a, Ln1, V1)) (R : mRel α S Ln V) (sl1A : mK l1A = 3) (el0A : l0Ax = α 0) (el1A : l1Ax = α l1A) (el2I : l2Ix = l2I) (hk : (mP Ln - mP Ln1) / 16 ≤ k0) (hn : mP Ln - mP Ln1 ≤ n0) (k : ∀ S1, mRel α S1 Ln1 V1 → mFr α S S1 → Φ a S1) : rX11_testItem F k0 n0 l0Ax l1Ax l2Ix S Φ Ψ := LX11_testItem h R sl1A el0A el1A el2I hk hn k
end
