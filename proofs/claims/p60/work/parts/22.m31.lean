/-! LIFTED BY PROGRAM (lift.py): X8_solveEquations, X8_solvePrimes, X8_buildChain, X8_judgeParts, X8_judgeSigns, X10_solvePermutations. -/
section
def mX8_solveEquations_b0 (F : Nat) (rec : Nat → (Nat → Nat) → Nat → Int32 → mV → Option (Unit × (Nat → Nat) × mV)) (Ln : Nat → Nat) (l1A : Nat) (l2I : Int32) (V : mV) : Option (Unit × (Nat → Nat) × mV) :=
  (if (V.fI l1A 1) ≤ l2I then (rec 1 Ln l1A ((0 : Int32)) V) else (mBW (mX8_takeLeastAmount F (l2I) V) fun v2 V3 => (mLt (l2I + (1 : Int32)) fun x7 => (rec 0 Ln l1A (x7) V3))))
def mX8_solveEquations_b1 (F : Nat) (rec : Nat → (Nat → Nat) → Nat → Int32 → mV → Option (Unit × (Nat → Nat) × mV)) (Ln : Nat → Nat) (l1A : Nat) (l2I : Int32) (V : mV) : Option (Unit × (Nat → Nat) × mV) :=
  (if (V.fI l1A 1) ≤ l2I then some ((), Ln, V) else (if l2I < 0 ∨ 4 ≤ (l2I).toNatClampNeg then none else (mBA (mX9_add F Ln (l1A + 2) ((Int64.toInt32 (V.rJ 54 (l2I).toNatClampNeg))) V) fun v10 L11 V11 => (mLt (l2I + (1 : Int32)) fun x15 => (rec 1 L11 l1A (x15) V11)))))
def mX8_solveEquations_go (F : Nat) : Nat → Nat → (Nat → Nat) → Nat → Int32 → mV → Option (Unit × (Nat → Nat) × mV)
  | 0, _, _, _, _, _ => none
  | k' + 1, lab, Ln, l1A, l2I, V => if lab = 0 then mX8_solveEquations_b0 F (mX8_solveEquations_go F k') Ln l1A l2I V else if lab = 1 then mX8_solveEquations_b1 F (mX8_solveEquations_go F k') Ln l1A l2I V else none
def mX8_solveEquations_s (F : Nat) (rec : Nat → (Nat → Nat) → Nat → Int32 → mV → Option (Unit × (Nat → Nat) × mV)) (Ln : Nat → Nat) (l1A : Nat) (V : mV) : Option (Unit × (Nat → Nat) × mV) :=
  (mBW (mX8_findPoint F l1A V) fun v16 V17 => (if v16 = 0 then (mBA (mX8_writeModulus F Ln l1A V17) fun v22 L23 V23 => (mBN (mX9_at F L23 (l1A + 2) ((0 : Int32)) V23) fun v27 => (mBW (mX3_tell F l1A ((0 : Int32)) (v27) V23) fun v32 V33 => some ((), L23, V33)))) else (mBW (mX3_tell F l1A ((1 : Int32)) ((0 : Int32)) V17) fun v37 V38 => (rec 0 Ln l1A ((0 : Int32)) V38))))
def mX8_solveEquations (F : Nat) (Ln : Nat → Nat) (l1A : Nat) (V : mV) : Option (Unit × (Nat → Nat) × mV) := mX8_solveEquations_s F (mX8_solveEquations_go F F) Ln l1A V
set_option maxHeartbeats 4000000 in
set_option maxRecDepth 100000 in
theorem MX8_solveEquations_go {F : Nat} {v : Unit} {Ln1 : Nat → Nat} {V1 : mV} : ∀ k' : Nat, (∀ (l1A : Nat) (l2I : Int32) (Ln : Nat → Nat) (V : mV), mX8_solveEquations_go F k' 0 Ln l1A l2I V = some (v, Ln1, V1) → mP Ln1 ≤ mP Ln) ∧ (∀ (l1A : Nat) (l2I : Int32) (Ln : Nat → Nat) (V : mV), mX8_solveEquations_go F k' 1 Ln l1A l2I V = some (v, Ln1, V1) → mP Ln1 ≤ mP Ln) := by
  intro k'
  induction k' with
  | zero => exact ⟨(fun _ _ _ _ h => by cases h), (fun _ _ _ _ h => by cases h)⟩
  | succ k' ihM =>
    refine ⟨?_, ?_⟩
    · intro l1A l2I Ln V h
      rw [mX8_solveEquations_go, if_pos rfl] at h
      unfold mX8_solveEquations_b0 at h
      rcases mIf_some h with ⟨_, h⟩ | ⟨_, h⟩
      · exact ihM.2 _ _ _ _ h
      · obtain ⟨_, _, _, h⟩ := mBW_some h
        obtain ⟨_, _, h⟩ := mLt_some h
        exact ihM.1 _ _ _ _ h
    · intro l1A l2I Ln V h
      rw [mX8_solveEquations_go, if_neg (by decide), if_pos rfl] at h
      unfold mX8_solveEquations_b1 at h
      rcases mIf_some h with ⟨_, h⟩ | ⟨_, h⟩
      · cases h
        exact Nat.le_refl _
      · obtain ⟨_, h⟩ := mGd_some h
        obtain ⟨_, _, _, z1, h⟩ := mBA_some h
        refine Nat.le_trans ?_ (MX9_add z1)
        obtain ⟨_, _, h⟩ := mLt_some h
        exact ihM.2 _ _ _ _ h
set_option maxHeartbeats 4000000 in
set_option maxRecDepth 100000 in
theorem MX8_solveEquations {F : Nat} {Ln Ln1 : Nat → Nat} {V V1 : mV} {v : Unit} {l1A : Nat} (h : mX8_solveEquations F Ln l1A V = some (v, Ln1, V1)) : mP Ln1 ≤ mP Ln := by
  have ihM := MX8_solveEquations_go (F := F) (v := v) (Ln1 := Ln1) (V1 := V1) F
  unfold mX8_solveEquations mX8_solveEquations_s at h
  obtain ⟨_, _, _, h⟩ := mBW_some h
  rcases mIf_some h with ⟨_, h⟩ | ⟨_, h⟩
  · obtain ⟨_, _, _, z2, h⟩ := mBA_some h
    refine Nat.le_trans ?_ (MX8_writeModulus z2)
    obtain ⟨_, _, h⟩ := mBN_some h
    obtain ⟨_, _, _, h⟩ := mBW_some h
    cases h
    exact Nat.le_refl _
  · obtain ⟨_, _, _, h⟩ := mBW_some h
    exact ihM.1 _ _ _ _ h
set_option maxHeartbeats 4000000 in
set_option maxRecDepth 100000 in
theorem LX8_solveEquations_go {α : Nat → Nat} {k0 n0 : Nat} {F : Nat} {v : Unit} {Ln1 : Nat → Nat} {V1 : mV} {Φ : (Unit → wPS → Prop)} : ∀ k' : Nat, (∀ (l1A : Nat) (l2I : Int32) (S : wPS) (V : mV) (Ln : Nat → Nat) (c s : Nat), mRel α S Ln V → mK l1A = 3 → mX8_solveEquations_go F k' 0 Ln l1A l2I V = some (v, Ln1, V1) → c + (mP Ln - mP Ln1) / 16 ≤ k0 → s + (mP Ln - mP Ln1) ≤ n0 → (∀ S1, mRel α S1 Ln1 V1 → mFr α S S1 → Φ v S1) → rX8_solveEquations_go F k0 n0 k' 0 c s (α 6) (α l1A) l2I S Φ) ∧ (∀ (l1A : Nat) (l2I : Int32) (S : wPS) (V : mV) (Ln : Nat → Nat) (c s : Nat), mRel α S Ln V → mK l1A = 3 → mX8_solveEquations_go F k' 1 Ln l1A l2I V = some (v, Ln1, V1) → c + (mP Ln - mP Ln1) / 16 ≤ k0 → s + (mP Ln - mP Ln1) ≤ n0 → (∀ S1, mRel α S1 Ln1 V1 → mFr α S S1 → Φ v S1) → rX8_solveEquations_go F k0 n0 k' 1 c s (α 6) (α l1A) l2I S Φ) := by
  intro k'
  induction k' with
  | zero => exact ⟨(fun _ _ _ _ _ _ _ _ _ h _ _ _ => by cases h), (fun _ _ _ _ _ _ _ _ _ h _ _ _ => by cases h)⟩
  | succ k' ih =>
    have ihM := MX8_solveEquations_go (F := F) (v := v) (Ln1 := Ln1) (V1 := V1) k'
    refine ⟨?_, ?_⟩
    · intro l1A l2I S V Ln c s R sl1A h hk hn k
      rw [mX8_solveEquations_go, if_pos rfl] at h
      rw [rX8_solveEquations_go, if_pos rfl]
      unfold mX8_solveEquations_b0 at h
      unfold rX8_solveEquations_b0
      refine mIf h (by rw [show gEntry_size S (α l1A) = V.fI l1A 1 from (mg_I (i := l1A) R (mO3 sl1A) rfl 1)]) (fun c3 h => ?_) (fun c3 h => ?_)
      · exact ih.2 _ _ _ _ _ _ _ R sl1A h (by omega) (by omega) (fun S1 R1 F1 => k S1 R1 F1)
      · obtain ⟨v2, V3, hv2, h⟩ := mBW_some h
        refine LX8_takeLeastAmount hv2 R rfl rfl (fun S3 R3 F3 => ?_)
        refine mLet h rfl (fun x7 ex7 h => ?_)
        exact ih.1 _ _ _ _ _ _ _ R3 sl1A h (by omega) (by omega) (fun S1 R1 F1 => k S1 R1 (F3.tr F1))
    · intro l1A l2I S V Ln c s R sl1A h hk hn k
      rw [mX8_solveEquations_go, if_neg (by decide), if_pos rfl] at h
      rw [rX8_solveEquations_go, if_neg (by decide), if_pos rfl]
      unfold mX8_solveEquations_b1 at h
      unfold rX8_solveEquations_b1
      refine mIf h (by rw [show gEntry_size S (α l1A) = V.fI l1A 1 from (mg_I (i := l1A) R (mO3 sl1A) rfl 1)]) (fun c4 h => ?_) (fun c4 h => ?_)
      · obtain ⟨rfl, rfl, rfl⟩ := mRA3 h
        exact k _ R mFr.rf
      · refine mGd h (by rw [show S.len (wkAd (gNumbers_point S (α 6))) = 4 from (mg_len (i := 54) R (mA14 rfl) (mg_A (t := 54) R rfl rfl))]) (fun c5 h => ?_)
        obtain ⟨v10, L11, V11, hv10, h⟩ := mBA_some h
        have mv10 : mP L11 ≤ mP Ln := MX9_add hv10
        have qv10 : mP Ln1 ≤ mP L11 := by
          obtain ⟨_, _, h⟩ := mLt_some h
          exact ihM.2 _ _ _ _ h
        refine ⟨(mP Ln - mP L11) / 16, mP Ln - mP L11, by omega, by omega, ?_⟩
        refine LX9_add hv10 R (mKe2 sl1A) (mg_A (t := (l1A + 2)) R (mRe sl1A rfl) rfl) (by rw [show S.rJ (wkAd (gNumbers_point S (α 6))) (l2I).toNatClampNeg = V.rJ 54 (l2I).toNatClampNeg from (mg_rJ (i := 54) R (mA14 rfl) (mg_A (t := 54) R rfl rfl) rfl)]) (by omega) (by omega) (fun S11 R11 F11 => ?_)
        refine mLet h rfl (fun x15 ex15 h => ?_)
        exact ih.2 _ _ _ _ _ _ _ R11 sl1A h (by omega) (by omega) (fun S1 R1 F1 => k S1 R1 (F11.tr F1))
set_option maxHeartbeats 4000000 in
set_option maxRecDepth 100000 in
theorem LX8_solveEquations {α : Nat → Nat} {F : Nat} {S : wPS} {Ln Ln1 : Nat → Nat} {V V1 : mV} {v : Unit} {Φ : (Unit → wPS → Prop)} {l0Ax : Nat} {l1Ax : Nat} {l1A : Nat} {k0 n0 : Nat} (h : mX8_solveEquations F Ln l1A V = some (v, Ln1, V1)) (R : mRel α S Ln V) (sl1A : mK l1A = 3) (el0A : l0Ax = α 6) (el1A : l1Ax = α l1A) (hk : (mP Ln - mP Ln1) / 16 ≤ k0) (hn : mP Ln - mP Ln1 ≤ n0) (k : (∀ S1, mRel α S1 Ln1 V1 → mFr α S S1 → Φ v S1)) : rX8_solveEquations F k0 n0 l0Ax l1Ax S Φ := by
  have el0A := el0A.symm
  subst el0A
  have el1A := el1A.symm
  subst el1A
  have ih := LX8_solveEquations_go  (α := α) (F := F) (v := v) (k0 := k0) (n0 := n0) (Ln1 := Ln1) (Φ := Φ) (V1 := V1) F
  have ihM := MX8_solveEquations_go (F := F) (v := v) (Ln1 := Ln1) (V1 := V1) F
  unfold mX8_solveEquations mX8_solveEquations_s at h
  unfold rX8_solveEquations rX8_solveEquations_s
  obtain ⟨v16, V17, hv16, h⟩ := mBW_some h
  refine LX8_findPoint hv16 R sl1A rfl rfl (fun S17 R17 F17 => ?_)
  refine mIf h Iff.rfl (fun c6 h => ?_) (fun c6 h => ?_)
  · obtain ⟨v22, L23, V23, hv22, h⟩ := mBA_some h
    have mv22 : mP L23 ≤ mP Ln := MX8_writeModulus hv22
    have qv22 : mP Ln1 ≤ mP L23 := by
      obtain ⟨_, _, h⟩ := mBN_some h
      obtain ⟨_, _, _, h⟩ := mBW_some h
      cases h
      exact Nat.le_refl _
    refine ⟨(mP Ln - mP L23) / 16, mP Ln - mP L23, by omega, by omega, ?_⟩
    refine LX8_writeModulus hv22 R17 sl1A rfl (by omega) (by omega) (fun S23 R23 F23 => ?_)
    obtain ⟨v27, hv27, h⟩ := mBN_some h
    refine LX9_at hv27 R23 (mKe2 sl1A) (mg_A (t := (l1A + 2)) R23 (mRe sl1A rfl) rfl) rfl ?_
    obtain ⟨v32, V33, hv32, h⟩ := mBW_some h
    refine LX3_tell hv32 R23 sl1A rfl rfl rfl (fun S33 R33 F33 => ?_)
    obtain ⟨rfl, rfl, rfl⟩ := mRA3 h
    exact k _ R33 (F17.tr (F23.tr F33))
  · obtain ⟨v37, V38, hv37, h⟩ := mBW_some h
    refine LX3_tell hv37 R17 sl1A rfl rfl rfl (fun S38 R38 F38 => ?_)
    exact ih.1 _ _ _ _ _ _ _ R38 sl1A h (by omega) (by omega) (fun S1 R1 F1 => k S1 R1 (F17.tr (F38.tr F1)))
def mX8_solvePrimes (F : Nat) (Ln : Nat → Nat) (l1A : Nat) (V : mV) : Option (Unit × (Nat → Nat) × mV) :=
  (mLt (V.fI l1A 8) fun x1 => (mBN (mX8_leastDivisor F (x1)) fun v2 => (if v2 = x1 then (mBW (mX3_tell F l1A ((1 : Int32)) (v2) V) fun v30 V31 => (if v2 = x1 then (mBA (mX8_writePrime F 48 Ln (x1) (l1A + 2) ((0 : Int32)) V31) fun v47 L48 V48 => some ((), L48, V48)) else (mBA (mX9_add F Ln (l1A + 2) (v2) V31) fun v36 L37 V37 => (if v2 = 0 then none else (mBA (mX9_add F L37 (l1A + 2) ((x1 / v2)) V37) fun v42 L43 V43 => some ((), L43, V43)))))) else (mBW (mX3_tell F l1A ((0 : Int32)) (v2) V) fun v8 V9 => (if v2 = x1 then (mBA (mX8_writePrime F 48 Ln (x1) (l1A + 2) ((0 : Int32)) V9) fun v25 L26 V26 => some ((), L26, V26)) else (mBA (mX9_add F Ln (l1A + 2) (v2) V9) fun v14 L15 V15 => (if v2 = 0 then none else (mBA (mX9_add F L15 (l1A + 2) ((x1 / v2)) V15) fun v20 L21 V21 => some ((), L21, V21)))))))))
set_option maxHeartbeats 4000000 in
set_option maxRecDepth 100000 in
theorem MX8_solvePrimes {F : Nat} {Ln Ln1 : Nat → Nat} {V V1 : mV} {v : Unit} {l1A : Nat} (h : mX8_solvePrimes F Ln l1A V = some (v, Ln1, V1)) : mP Ln1 ≤ mP Ln := by
  unfold mX8_solvePrimes at h
  obtain ⟨_, _, h⟩ := mLt_some h
  obtain ⟨_, _, h⟩ := mBN_some h
  rcases mIf_some h with ⟨_, h⟩ | ⟨_, h⟩
  · obtain ⟨_, _, _, h⟩ := mBW_some h
    rcases mIf_some h with ⟨_, h⟩ | ⟨_, h⟩
    · obtain ⟨_, _, _, z1, h⟩ := mBA_some h
      refine Nat.le_trans ?_ (MX8_writePrime z1)
      cases h
      exact Nat.le_refl _
    · obtain ⟨_, _, _, z2, h⟩ := mBA_some h
      refine Nat.le_trans ?_ (MX9_add z2)
      obtain ⟨_, h⟩ := mGd_some h
      obtain ⟨_, _, _, z3, h⟩ := mBA_some h
      refine Nat.le_trans ?_ (MX9_add z3)
      cases h
      exact Nat.le_refl _
  · obtain ⟨_, _, _, h⟩ := mBW_some h
    rcases mIf_some h with ⟨_, h⟩ | ⟨_, h⟩
    · obtain ⟨_, _, _, z4, h⟩ := mBA_some h
      refine Nat.le_trans ?_ (MX8_writePrime z4)
      cases h
      exact Nat.le_refl _
    · obtain ⟨_, _, _, z5, h⟩ := mBA_some h
      refine Nat.le_trans ?_ (MX9_add z5)
      obtain ⟨_, h⟩ := mGd_some h
      obtain ⟨_, _, _, z6, h⟩ := mBA_some h
      refine Nat.le_trans ?_ (MX9_add z6)
      cases h
      exact Nat.le_refl _
set_option maxHeartbeats 4000000 in
set_option maxRecDepth 100000 in
theorem LX8_solvePrimes {α : Nat → Nat} {F : Nat} {S : wPS} {Ln Ln1 : Nat → Nat} {V V1 : mV} {v : Unit} {Φ : (Unit → wPS → Prop)} {l0Ax : Nat} {l1Ax : Nat} {l1A : Nat} {k0 n0 : Nat} (h : mX8_solvePrimes F Ln l1A V = some (v, Ln1, V1)) (R : mRel α S Ln V) (sl1A : mK l1A = 3) (el0A : l0Ax = α 6) (el1A : l1Ax = α l1A) (hk : (mP Ln - mP Ln1) / 16 ≤ k0) (hn : mP Ln - mP Ln1 ≤ n0) (k : (∀ S1, mRel α S1 Ln1 V1 → mFr α S S1 → Φ v S1)) : rX8_solvePrimes F k0 n0 l0Ax l1Ax S Φ := by
  have el0A := el0A.symm
  subst el0A
  have el1A := el1A.symm
  subst el1A
  unfold mX8_solvePrimes at h
  unfold rX8_solvePrimes
  refine mLet h (by rw [show gEntry_boundNow S (α l1A) = V.fI l1A 8 from (mg_I (i := l1A) R (mO3 sl1A) rfl 8)]) (fun x1 ex1 h => ?_)
  obtain ⟨v2, hv2, h⟩ := mBN_some h
  refine LX8_leastDivisor hv2 rfl ?_
  refine mIf h Iff.rfl (fun c7 h => ?_) (fun c7 h => ?_)
  · obtain ⟨v30, V31, hv30, h⟩ := mBW_some h
    refine LX3_tell hv30 R sl1A rfl rfl rfl (fun S31 R31 F31 => ?_)
    refine mIf h Iff.rfl (fun c8 h => ?_) (fun c8 h => ?_)
    · obtain ⟨v47, L48, V48, hv47, h⟩ := mBA_some h
      have mv47 : mP L48 ≤ mP Ln := MX8_writePrime hv47
      have qv47 : mP Ln1 ≤ mP L48 := by
        cases h
        exact Nat.le_refl _
      refine ⟨(mP Ln - mP L48) / 16, mP Ln - mP L48, by omega, by omega, ?_⟩
      refine LX8_writePrime hv47 R31 (mKe2 sl1A) rfl (mg_A (t := (l1A + 2)) R31 (mRe sl1A rfl) rfl) rfl (by omega) (by omega) (fun S48 R48 F48 => ?_)
      obtain ⟨rfl, rfl, rfl⟩ := mRA3 h
      exact k _ R48 (F31.tr F48)
    · obtain ⟨v36, L37, V37, hv36, h⟩ := mBA_some h
      have mv36 : mP L37 ≤ mP Ln := MX9_add hv36
      have qv36 : mP Ln1 ≤ mP L37 := by
        obtain ⟨_, h⟩ := mGd_some h
        obtain ⟨_, _, _, z9, h⟩ := mBA_some h
        refine Nat.le_trans ?_ (MX9_add z9)
        cases h
        exact Nat.le_refl _
      refine ⟨(mP Ln - mP L37) / 16, mP Ln - mP L37, by omega, by omega, ?_⟩
      refine LX9_add hv36 R31 (mKe2 sl1A) (mg_A (t := (l1A + 2)) R31 (mRe sl1A rfl) rfl) rfl (by omega) (by omega) (fun S37 R37 F37 => ?_)
      refine mGd h Iff.rfl (fun c10 h => ?_)
      obtain ⟨v42, L43, V43, hv42, h⟩ := mBA_some h
      have mv42 : mP L43 ≤ mP L37 := MX9_add hv42
      have qv42 : mP Ln1 ≤ mP L43 := by
        cases h
        exact Nat.le_refl _
      refine ⟨(mP L37 - mP L43) / 16, mP L37 - mP L43, by omega, by omega, ?_⟩
      refine LX9_add hv42 R37 (mKe2 sl1A) (mg_A (t := (l1A + 2)) R37 (mRe sl1A rfl) rfl) rfl (by omega) (by omega) (fun S43 R43 F43 => ?_)
      obtain ⟨rfl, rfl, rfl⟩ := mRA3 h
      exact k _ R43 (F31.tr (F37.tr F43))
  · obtain ⟨v8, V9, hv8, h⟩ := mBW_some h
    refine LX3_tell hv8 R sl1A rfl rfl rfl (fun S9 R9 F9 => ?_)
    refine mIf h Iff.rfl (fun c11 h => ?_) (fun c11 h => ?_)
    · obtain ⟨v25, L26, V26, hv25, h⟩ := mBA_some h
      have mv25 : mP L26 ≤ mP Ln := MX8_writePrime hv25
      have qv25 : mP Ln1 ≤ mP L26 := by
        cases h
        exact Nat.le_refl _
      refine ⟨(mP Ln - mP L26) / 16, mP Ln - mP L26, by omega, by omega, ?_⟩
      refine LX8_writePrime hv25 R9 (mKe2 sl1A) rfl (mg_A (t := (l1A + 2)) R9 (mRe sl1A rfl) rfl) rfl (by omega) (by omega) (fun S26 R26 F26 => ?_)
      obtain ⟨rfl, rfl, rfl⟩ := mRA3 h
      exact k _ R26 (F9.tr F26)
    · obtain ⟨v14, L15, V15, hv14, h⟩ := mBA_some h
      have mv14 : mP L15 ≤ mP Ln := MX9_add hv14
      have qv14 : mP Ln1 ≤ mP L15 := by
        obtain ⟨_, h⟩ := mGd_some h
        obtain ⟨_, _, _, z12, h⟩ := mBA_some h
        refine Nat.le_trans ?_ (MX9_add z12)
        cases h
        exact Nat.le_refl _
      refine ⟨(mP Ln - mP L15) / 16, mP Ln - mP L15, by omega, by omega, ?_⟩
      refine LX9_add hv14 R9 (mKe2 sl1A) (mg_A (t := (l1A + 2)) R9 (mRe sl1A rfl) rfl) rfl (by omega) (by omega) (fun S15 R15 F15 => ?_)
      refine mGd h Iff.rfl (fun c13 h => ?_)
      obtain ⟨v20, L21, V21, hv20, h⟩ := mBA_some h
      have mv20 : mP L21 ≤ mP L15 := MX9_add hv20
      have qv20 : mP Ln1 ≤ mP L21 := by
        cases h
        exact Nat.le_refl _
      refine ⟨(mP L15 - mP L21) / 16, mP L15 - mP L21, by omega, by omega, ?_⟩
      refine LX9_add hv20 R15 (mKe2 sl1A) (mg_A (t := (l1A + 2)) R15 (mRe sl1A rfl) rfl) rfl (by omega) (by omega) (fun S21 R21 F21 => ?_)
      obtain ⟨rfl, rfl, rfl⟩ := mRA3 h
      exact k _ R21 (F9.tr (F15.tr F21))
def mX8_buildChain_b0 (F : Nat) (rec : Nat → Nat → Int32 → mV → Option (Unit × mV)) (l1A : Nat) (l2I : Int32) (V : mV) : Option (Unit × mV) :=
  (if (4 : Int32) ≤ l2I then (if (0 : Int32) < 0 ∨ 5 ≤ ((0 : Int32)).toNatClampNeg then none else (mBN (mX8_degreeOf F (62 + ((0 : Int32)).toNatClampNeg) V) fun v4 => (if 0 ≤ v4 then (if (0 : Int32) < 0 ∨ 5 ≤ ((0 : Int32)).toNatClampNeg then none else (mLt (mI V 67 ((0 : Int32)) (v4)) fun V11 => (mBW (mX8_continueChain F V11) fun v12 V13 => (mBW (mX8_divideFirst F (((V13.fI 6 8) - (1 : Int32))) V13) fun v17 V18 => (mBW (mX8_continueChain F V18) fun v22 V23 => some ((), V23)))))) else some ((), V)))) else (if (0 : Int32) < 0 ∨ 5 ≤ ((0 : Int32)).toNatClampNeg then none else (mBN (mX3_at F l1A ((0 : Int32)) (l2I) V) fun v29 => (if l2I < 0 ∨ 4 ≤ (l2I).toNatClampNeg then none else (mLt (mJ V (62 + ((0 : Int32)).toNatClampNeg) (l2I) ((Int32.toInt64 v29))) fun V35 => (mLt (l2I + (1 : Int32)) fun x36 => (rec 0 l1A (x36) V35)))))))
def mX8_buildChain_go (F : Nat) : Nat → Nat → Nat → Int32 → mV → Option (Unit × mV)
  | 0, _, _, _, _ => none
  | k' + 1, lab, l1A, l2I, V => if lab = 0 then mX8_buildChain_b0 F (mX8_buildChain_go F k') l1A l2I V else none
def mX8_buildChain_s (F : Nat) (rec : Nat → Nat → Int32 → mV → Option (Unit × mV)) (l1A : Nat) (V : mV) : Option (Unit × mV) :=
  (mLt (mF V 6 8 ((0 : Int32))) fun V37 => (rec 0 l1A ((0 : Int32)) V37))
def mX8_buildChain (F : Nat) (l1A : Nat) (V : mV) : Option (Unit × mV) := mX8_buildChain_s F (mX8_buildChain_go F F) l1A V
set_option maxHeartbeats 4000000 in
set_option maxRecDepth 100000 in
theorem LX8_buildChain_go {α : Nat → Nat} {F : Nat} {Ln : Nat → Nat} {v : Unit} {V1 : mV} {Φ : (Unit → wPS → Prop)} : ∀ k' : Nat, (∀ (l1A : Nat) (l2I : Int32) (S : wPS) (V : mV) , mRel α S Ln V → mK l1A = 3 → mX8_buildChain_go F k' 0 l1A l2I V = some (v, V1) → (∀ S1, mRel α S1 Ln V1 → mFr α S S1 → Φ v S1) → rX8_buildChain_go F k' 0 (α 6) (α l1A) l2I S Φ) := by
  intro k'
  induction k' with
  | zero => exact (fun _ _ _ _ _ _ h _ => by cases h)
  | succ k' ih =>
    intro l1A l2I S V R sl1A h k
    rw [mX8_buildChain_go, if_pos rfl] at h
    rw [rX8_buildChain_go, if_pos rfl]
    unfold mX8_buildChain_b0 at h
    unfold rX8_buildChain_b0
    refine mIf h Iff.rfl (fun c1 h => ?_) (fun c1 h => ?_)
    · refine mGd h (by rw [show S.len (wkAd (gNumbers_chain S (α 6))) = 5 from (mg_len (i := 61) R (mAr (by decide)) (mg_A (t := 61) R rfl rfl))]) (fun c2 h => ?_)
      obtain ⟨v4, hv4, h⟩ := mBN_some h
      refine LX8_degreeOf hv4 R (mKA61 (Nat.lt_of_not_le (fun z => c2 (Or.inr z)))) (mg_RA R (mRA61 (Nat.lt_of_not_le (fun z => c2 (Or.inr z)))) (mg_A (t := 61) R rfl rfl) rfl) ?_
      refine mIf h Iff.rfl (fun c3 h => ?_) (fun c3 h => ?_)
      · refine mGd h (by rw [show S.len (wkAd (gNumbers_degrees S (α 6))) = 5 from (mg_len (i := 67) R (mA13 rfl) (mg_A (t := 67) R rfl rfl))]) (fun c4 h => ?_)
        obtain ⟨V11, eV11, h⟩ := mLt_some h
        refine mU_I eV11 R (mA13 rfl) (mg_A (t := 67) R rfl rfl) rfl rfl (fun S11 R11 F11 => ?_)
        obtain ⟨v12, V13, hv12, h⟩ := mBW_some h
        refine LX8_continueChain hv12 R11 rfl (fun S13 R13 F13 => ?_)
        obtain ⟨v17, V18, hv17, h⟩ := mBW_some h
        refine LX8_divideFirst hv17 R13 rfl (by rw [show gNumbers_chainCount S13 (α 6) = V13.fI 6 8 from (mg_I (i := 6) R13 (by decide) rfl 8)]) (fun S18 R18 F18 => ?_)
        obtain ⟨v22, V23, hv22, h⟩ := mBW_some h
        refine LX8_continueChain hv22 R18 rfl (fun S23 R23 F23 => ?_)
        obtain ⟨rfl, rfl⟩ := mRW h
        exact k _ R23 (F11.tr (F13.tr (F18.tr F23)))
      · obtain ⟨rfl, rfl⟩ := mRW h
        exact k _ R mFr.rf
    · refine mGd h (by rw [show S.len (wkAd (gNumbers_chain S (α 6))) = 5 from (mg_len (i := 61) R (mAr (by decide)) (mg_A (t := 61) R rfl rfl))]) (fun c5 h => ?_)
      obtain ⟨v29, hv29, h⟩ := mBN_some h
      refine LX3_at hv29 R sl1A rfl rfl rfl ?_
      refine mGd h (by rw [show S.len (wkAd (S.rA (wkAd (gNumbers_chain S (α 6))) ((0 : Int32)).toNatClampNeg)) = 4 from ((mg_len R (mA14 (mKA61 (Nat.lt_of_not_le (fun z => c5 (Or.inr z))))) (mg_RA R (mRA61 (Nat.lt_of_not_le (fun z => c5 (Or.inr z)))) (mg_A (t := 61) R rfl rfl) rfl)).trans (mLA61 (Nat.lt_of_not_le (fun z => c5 (Or.inr z)))))]) (fun c6 h => ?_)
      obtain ⟨V35, eV35, h⟩ := mLt_some h
      refine mU_J eV35 R (mA14 (mKA61 (Nat.lt_of_not_le (fun z => c5 (Or.inr z))))) (mg_RA R (mRA61 (Nat.lt_of_not_le (fun z => c5 (Or.inr z)))) (mg_A (t := 61) R rfl rfl) rfl) rfl rfl (fun S35 R35 F35 => ?_)
      refine mLet h rfl (fun x36 ex36 h => ?_)
      exact ih _ _ _ _ R35 sl1A h (fun S1 R1 F1 => k S1 R1 (F35.tr F1))
set_option maxHeartbeats 4000000 in
set_option maxRecDepth 100000 in
theorem LX8_buildChain {α : Nat → Nat} {F : Nat} {S : wPS} {Ln : Nat → Nat} {V V1 : mV} {v : Unit} {Φ : (Unit → wPS → Prop)} {l0Ax : Nat} {l1Ax : Nat} {l1A : Nat} (h : mX8_buildChain F l1A V = some (v, V1)) (R : mRel α S Ln V) (sl1A : mK l1A = 3) (el0A : l0Ax = α 6) (el1A : l1Ax = α l1A) (k : (∀ S1, mRel α S1 Ln V1 → mFr α S S1 → Φ v S1)) : rX8_buildChain F l0Ax l1Ax S Φ := by
  have el0A := el0A.symm
  subst el0A
  have el1A := el1A.symm
  subst el1A
  have ih := LX8_buildChain_go  (α := α) (F := F) (v := v) (Ln := Ln) (Φ := Φ) (V1 := V1) F
  unfold mX8_buildChain mX8_buildChain_s at h
  unfold rX8_buildChain rX8_buildChain_s
  obtain ⟨V37, eV37, h⟩ := mLt_some h
  refine mU_F eV37 R (by decide) rfl rfl (fun S37 R37 F37 => ?_)
  exact ih _ _ _ _ R37 sl1A h (fun S1 R1 F1 => k S1 R1 (F37.tr F1))
def mX8_judgeParts_b0 (F : Nat) (rec : Nat → (Nat → Nat) → Nat → Int32 → mV → Option (Int32 × mV)) (Ln : Nat → Nat) (l2A : Nat) (l3I : Int32) (V : mV) : Option (Int32 × mV) :=
  (if (V.fI l2A 1) ≤ l3I then some ((0 : Int32), V) else (mBN (mX9_at F Ln l2A (l3I) V) fun v2 => (mBN (mX9_at F Ln l2A ((l3I + (1 : Int32))) V) fun v7 => (mBN (mX8_rootsOfPart F (v2) (v7) V) fun v12 => (if (1 : Int32) ≤ v12 then (mLt (l3I + (2 : Int32)) fun x18 => (rec 0 Ln l2A (x18) V)) else some ((4 : Int32), V))))))
def mX8_judgeParts_go (F : Nat) : Nat → Nat → (Nat → Nat) → Nat → Int32 → mV → Option (Int32 × mV)
  | 0, _, _, _, _, _ => none
  | k' + 1, lab, Ln, l2A, l3I, V => if lab = 0 then mX8_judgeParts_b0 F (mX8_judgeParts_go F k') Ln l2A l3I V else none
def mX8_judgeParts_s (F : Nat) (rec : Nat → (Nat → Nat) → Nat → Int32 → mV → Option (Int32 × mV)) (Ln : Nat → Nat) (l1A : Nat) (l2A : Nat) (V : mV) : Option (Int32 × mV) :=
  (if ((V.fI l2A 1) - (V.fI l2A 1) / (2 : Int32) * (2 : Int32)) = 0 then (mBN (mX8_areParts F Ln l2A V) fun v20 => (if v20 = 0 then some ((1 : Int32), V) else (mBN (mX8_areOrdered F Ln l2A V) fun v26 => (if v26 = 0 then some ((2 : Int32), V) else (if (V.fI l1A 8) ≤ ((V.fI l2A 1) / (2 : Int32)) then (mBW (mX8_buildChain F l1A V) fun v33 V34 => (rec 0 Ln l2A ((0 : Int32)) V34)) else some ((3 : Int32), V)))))) else some ((1 : Int32), V))
def mX8_judgeParts (F : Nat) (Ln : Nat → Nat) (l1A : Nat) (l2A : Nat) (V : mV) : Option (Int32 × mV) := mX8_judgeParts_s F (mX8_judgeParts_go F F) Ln l1A l2A V
set_option maxHeartbeats 4000000 in
set_option maxRecDepth 100000 in
theorem LX8_judgeParts_go {α : Nat → Nat} {F : Nat} {v : Int32} {V1 : mV} {Φ : (Int32 → wPS → Prop)} : ∀ k' : Nat, (∀ (l2A : Nat) (l3I : Int32) (S : wPS) (V : mV) (Ln : Nat → Nat) , mRel α S Ln V → mK l2A = 9 → mX8_judgeParts_go F k' 0 Ln l2A l3I V = some (v, V1) → (∀ S1, mRel α S1 Ln V1 → mFr α S S1 → Φ v S1) → rX8_judgeParts_go F k' 0 (α 6) (α l2A) l3I S Φ) := by
  intro k'
  induction k' with
  | zero => exact (fun _ _ _ _ _ _ _ h _ => by cases h)
  | succ k' ih =>
    intro l2A l3I S V Ln R sl2A h k
    rw [mX8_judgeParts_go, if_pos rfl] at h
    rw [rX8_judgeParts_go, if_pos rfl]
    unfold mX8_judgeParts_b0 at h
    unfold rX8_judgeParts_b0
    refine mIf h (by rw [show gRow_count S (α l2A) = V.fI l2A 1 from (mg_I (i := l2A) R (mO9 sl2A) rfl 1)]) (fun c1 h => ?_) (fun c1 h => ?_)
    · obtain ⟨rfl, rfl⟩ := mRW h
      exact k _ R mFr.rf
    · obtain ⟨v2, hv2, h⟩ := mBN_some h
      refine LX9_at hv2 R sl2A rfl rfl ?_
      obtain ⟨v7, hv7, h⟩ := mBN_some h
      refine LX9_at hv7 R sl2A rfl rfl ?_
      obtain ⟨v12, hv12, h⟩ := mBN_some h
      refine LX8_rootsOfPart hv12 R rfl rfl rfl ?_
      refine mIf h Iff.rfl (fun c2 h => ?_) (fun c2 h => ?_)
      · refine mLet h rfl (fun x18 ex18 h => ?_)
        exact ih _ _ _ _ _ R sl2A h (fun S1 R1 F1 => k S1 R1 F1)
      · obtain ⟨rfl, rfl⟩ := mRW h
        exact k _ R mFr.rf
set_option maxHeartbeats 4000000 in
set_option maxRecDepth 100000 in
theorem LX8_judgeParts {α : Nat → Nat} {F : Nat} {S : wPS} {Ln : Nat → Nat} {V V1 : mV} {v : Int32} {Φ : (Int32 → wPS → Prop)} {l0Ax : Nat} {l1Ax : Nat} {l1A : Nat} {l2Ax : Nat} {l2A : Nat} (h : mX8_judgeParts F Ln l1A l2A V = some (v, V1)) (R : mRel α S Ln V) (sl1A : mK l1A = 3) (sl2A : mK l2A = 9) (el0A : l0Ax = α 6) (el1A : l1Ax = α l1A) (el2A : l2Ax = α l2A) (k : (∀ S1, mRel α S1 Ln V1 → mFr α S S1 → Φ v S1)) : rX8_judgeParts F l0Ax l1Ax l2Ax S Φ := by
  have el0A := el0A.symm
  subst el0A
  have el1A := el1A.symm
  subst el1A
  have el2A := el2A.symm
  subst el2A
  have ih := LX8_judgeParts_go  (α := α) (F := F) (v := v) (Φ := Φ) (V1 := V1) F
  unfold mX8_judgeParts mX8_judgeParts_s at h
  unfold rX8_judgeParts rX8_judgeParts_s
  refine mIf h (by rw [show gRow_count S (α l2A) = V.fI l2A 1 from (mg_I (i := l2A) R (mO9 sl2A) rfl 1)]) (fun c3 h => ?_) (fun c3 h => ?_)
  · obtain ⟨v20, hv20, h⟩ := mBN_some h
    refine LX8_areParts hv20 R sl2A rfl ?_
    refine mIf h Iff.rfl (fun c4 h => ?_) (fun c4 h => ?_)
    · obtain ⟨rfl, rfl⟩ := mRW h
      exact k _ R mFr.rf
    · obtain ⟨v26, hv26, h⟩ := mBN_some h
      refine LX8_areOrdered hv26 R sl2A rfl ?_
      refine mIf h Iff.rfl (fun c5 h => ?_) (fun c5 h => ?_)
      · obtain ⟨rfl, rfl⟩ := mRW h
        exact k _ R mFr.rf
      · refine mIf h (by rw [show gEntry_boundNow S (α l1A) = V.fI l1A 8 from (mg_I (i := l1A) R (mO3 sl1A) rfl 8), show gRow_count S (α l2A) = V.fI l2A 1 from (mg_I (i := l2A) R (mO9 sl2A) rfl 1)]) (fun c6 h => ?_) (fun c6 h => ?_)
        · obtain ⟨v33, V34, hv33, h⟩ := mBW_some h
          refine LX8_buildChain hv33 R sl1A rfl rfl (fun S34 R34 F34 => ?_)
          exact ih _ _ _ _ _ R34 sl2A h (fun S1 R1 F1 => k S1 R1 (F34.tr F1))
        · obtain ⟨rfl, rfl⟩ := mRW h
          exact k _ R mFr.rf
  · obtain ⟨rfl, rfl⟩ := mRW h
    exact k _ R mFr.rf
def mX8_judgeSigns_b0 (F : Nat) (rec : Nat → (Nat → Nat) → Nat → Nat → Int32 → mV → Option (Int32 × mV)) (Ln : Nat → Nat) (l1A : Nat) (l2A : Nat) (l3I : Int32) (V : mV) : Option (Int32 × mV) :=
  (if (V.fI l2A 1) ≤ l3I then (mBN (mX8_rootsOfPart F ((0 : Int32)) ((0 : Int32)) V) fun v2 => (if (V.fI l1A 8) ≤ v2 then some ((3 : Int32), V) else some ((0 : Int32), V))) else (mBN (mX9_at F Ln l2A (l3I) V) fun v8 => (mBN (mX8_signInRow F (l3I) V) fun v13 => (if v8 = v13 then (mLt (l3I + (1 : Int32)) fun x19 => (rec 0 Ln l1A l2A (x19) V)) else some ((2 : Int32), V)))))
def mX8_judgeSigns_go (F : Nat) : Nat → Nat → (Nat → Nat) → Nat → Nat → Int32 → mV → Option (Int32 × mV)
  | 0, _, _, _, _, _, _ => none
  | k' + 1, lab, Ln, l1A, l2A, l3I, V => if lab = 0 then mX8_judgeSigns_b0 F (mX8_judgeSigns_go F k') Ln l1A l2A l3I V else none
def mX8_judgeSigns_s (F : Nat) (rec : Nat → (Nat → Nat) → Nat → Nat → Int32 → mV → Option (Int32 × mV)) (Ln : Nat → Nat) (l1A : Nat) (l2A : Nat) (V : mV) : Option (Int32 × mV) :=
  (mBW (mX8_buildChain F l1A V) fun v20 V21 => (if (V21.fI l2A 1) = ((2 : Int32) * (V21.fI 6 8)) then (rec 0 Ln l1A l2A ((0 : Int32)) V21) else some ((1 : Int32), V21)))
def mX8_judgeSigns (F : Nat) (Ln : Nat → Nat) (l1A : Nat) (l2A : Nat) (V : mV) : Option (Int32 × mV) := mX8_judgeSigns_s F (mX8_judgeSigns_go F F) Ln l1A l2A V
set_option maxHeartbeats 4000000 in
set_option maxRecDepth 100000 in
theorem LX8_judgeSigns_go {α : Nat → Nat} {F : Nat} {v : Int32} {V1 : mV} {Φ : (Int32 → wPS → Prop)} : ∀ k' : Nat, (∀ (l1A : Nat) (l2A : Nat) (l3I : Int32) (S : wPS) (V : mV) (Ln : Nat → Nat) , mRel α S Ln V → mK l1A = 3 → mK l2A = 9 → mX8_judgeSigns_go F k' 0 Ln l1A l2A l3I V = some (v, V1) → (∀ S1, mRel α S1 Ln V1 → mFr α S S1 → Φ v S1) → rX8_judgeSigns_go F k' 0 (α 6) (α l1A) (α l2A) l3I S Φ) := by
  intro k'
  induction k' with
  | zero => exact (fun _ _ _ _ _ _ _ _ _ h _ => by cases h)
  | succ k' ih =>
    intro l1A l2A l3I S V Ln R sl1A sl2A h k
    rw [mX8_judgeSigns_go, if_pos rfl] at h
    rw [rX8_judgeSigns_go, if_pos rfl]
    unfold mX8_judgeSigns_b0 at h
    unfold rX8_judgeSigns_b0
    refine mIf h (by rw [show gRow_count S (α l2A) = V.fI l2A 1 from (mg_I (i := l2A) R (mO9 sl2A) rfl 1)]) (fun c1 h => ?_) (fun c1 h => ?_)
    · obtain ⟨v2, hv2, h⟩ := mBN_some h
      refine LX8_rootsOfPart hv2 R rfl rfl rfl ?_
      refine mIf h (by rw [show gEntry_boundNow S (α l1A) = V.fI l1A 8 from (mg_I (i := l1A) R (mO3 sl1A) rfl 8)]) (fun c2 h => ?_) (fun c2 h => ?_)
      · obtain ⟨rfl, rfl⟩ := mRW h
        exact k _ R mFr.rf
      · obtain ⟨rfl, rfl⟩ := mRW h
        exact k _ R mFr.rf
    · obtain ⟨v8, hv8, h⟩ := mBN_some h
      refine LX9_at hv8 R sl2A rfl rfl ?_
      obtain ⟨v13, hv13, h⟩ := mBN_some h
      refine LX8_signInRow hv13 R rfl rfl ?_
      refine mIf h Iff.rfl (fun c3 h => ?_) (fun c3 h => ?_)
      · refine mLet h rfl (fun x19 ex19 h => ?_)
        exact ih _ _ _ _ _ _ R sl1A sl2A h (fun S1 R1 F1 => k S1 R1 F1)
      · obtain ⟨rfl, rfl⟩ := mRW h
        exact k _ R mFr.rf
set_option maxHeartbeats 4000000 in
set_option maxRecDepth 100000 in
theorem LX8_judgeSigns {α : Nat → Nat} {F : Nat} {S : wPS} {Ln : Nat → Nat} {V V1 : mV} {v : Int32} {Φ : (Int32 → wPS → Prop)} {l0Ax : Nat} {l1Ax : Nat} {l1A : Nat} {l2Ax : Nat} {l2A : Nat} (h : mX8_judgeSigns F Ln l1A l2A V = some (v, V1)) (R : mRel α S Ln V) (sl1A : mK l1A = 3) (sl2A : mK l2A = 9) (el0A : l0Ax = α 6) (el1A : l1Ax = α l1A) (el2A : l2Ax = α l2A) (k : (∀ S1, mRel α S1 Ln V1 → mFr α S S1 → Φ v S1)) : rX8_judgeSigns F l0Ax l1Ax l2Ax S Φ := by
  have el0A := el0A.symm
  subst el0A
  have el1A := el1A.symm
  subst el1A
  have el2A := el2A.symm
  subst el2A
  have ih := LX8_judgeSigns_go  (α := α) (F := F) (v := v) (Φ := Φ) (V1 := V1) F
  unfold mX8_judgeSigns mX8_judgeSigns_s at h
  unfold rX8_judgeSigns rX8_judgeSigns_s
  obtain ⟨v20, V21, hv20, h⟩ := mBW_some h
  refine LX8_buildChain hv20 R sl1A rfl rfl (fun S21 R21 F21 => ?_)
  refine mIf h (by rw [show gNumbers_chainCount S21 (α 6) = V21.fI 6 8 from (mg_I (i := 6) R21 (by decide) rfl 8), show gRow_count S21 (α l2A) = V21.fI l2A 1 from (mg_I (i := l2A) R21 (mO9 sl2A) rfl 1)]) (fun c4 h => ?_) (fun c4 h => ?_)
  · exact ih _ _ _ _ _ _ R21 sl1A sl2A h (fun S1 R1 F1 => k S1 R1 (F21.tr F1))
  · obtain ⟨rfl, rfl⟩ := mRW h
    exact k _ R21 F21
def mX10_solvePermutations (F : Nat) (Ln : Nat → Nat) (l1A : Nat) (V : mV) : Option (Unit × (Nat → Nat) × mV) :=
  (mBW (mX10_reachAll F l1A V) fun v1 V2 => (mBN (mX10_rankOf F 76 V2) fun v6 => (if v6 < 0 ∨ 720 ≤ (v6).toNatClampNeg then none else (if (V2.rI 81 (v6).toNatClampNeg) < 0 then (mBW (mX3_tell F l1A ((0 : Int32)) (v1) V2) fun v13 V14 => (mBA (mX10_writeRows F Ln (l1A + 2) V14) fun v18 L19 V19 => some ((), L19, V19))) else (mBW (mX3_tell F l1A ((1 : Int32)) (v1) V2) fun v23 V24 => (mBA (mX10_writeItems F Ln (v6) (l1A + 2) V24) fun v28 L29 V29 => some ((), L29, V29)))))))
set_option maxHeartbeats 4000000 in
set_option maxRecDepth 100000 in
theorem MX10_solvePermutations {F : Nat} {Ln Ln1 : Nat → Nat} {V V1 : mV} {v : Unit} {l1A : Nat} (h : mX10_solvePermutations F Ln l1A V = some (v, Ln1, V1)) : mP Ln1 ≤ mP Ln := by
  unfold mX10_solvePermutations at h
  obtain ⟨_, _, _, h⟩ := mBW_some h
  obtain ⟨_, _, h⟩ := mBN_some h
  obtain ⟨_, h⟩ := mGd_some h
  rcases mIf_some h with ⟨_, h⟩ | ⟨_, h⟩
  · obtain ⟨_, _, _, h⟩ := mBW_some h
    obtain ⟨_, _, _, z1, h⟩ := mBA_some h
    refine Nat.le_trans ?_ (MX10_writeRows z1)
    cases h
    exact Nat.le_refl _
  · obtain ⟨_, _, _, h⟩ := mBW_some h
    obtain ⟨_, _, _, z2, h⟩ := mBA_some h
    refine Nat.le_trans ?_ (MX10_writeItems z2)
    cases h
    exact Nat.le_refl _
set_option maxHeartbeats 4000000 in
set_option maxRecDepth 100000 in
theorem LX10_solvePermutations {α : Nat → Nat} {F : Nat} {S : wPS} {Ln Ln1 : Nat → Nat} {V V1 : mV} {v : Unit} {Φ : (Unit → wPS → Prop)} {l0Ax : Nat} {l1Ax : Nat} {l1A : Nat} {k0 n0 : Nat} (h : mX10_solvePermutations F Ln l1A V = some (v, Ln1, V1)) (R : mRel α S Ln V) (sl1A : mK l1A = 3) (el0A : l0Ax = α 7) (el1A : l1Ax = α l1A) (hk : (mP Ln - mP Ln1) / 16 ≤ k0) (hn : mP Ln - mP Ln1 ≤ n0) (k : (∀ S1, mRel α S1 Ln1 V1 → mFr α S S1 → Φ v S1)) : rX10_solvePermutations F k0 n0 l0Ax l1Ax S Φ := by
  have el0A := el0A.symm
  subst el0A
  have el1A := el1A.symm
  subst el1A
  unfold mX10_solvePermutations at h
  unfold rX10_solvePermutations
  obtain ⟨v1, V2, hv1, h⟩ := mBW_some h
  refine LX10_reachAll hv1 R sl1A rfl rfl (fun S2 R2 F2 => ?_)
  obtain ⟨v6, hv6, h⟩ := mBN_some h
  refine LX10_rankOf hv6 R2 rfl rfl (mg_A (t := 76) R2 rfl rfl) ?_
  refine mGd h (by rw [show S2.len (wkAd (gWords_cameBy S2 (α 7))) = 720 from (mg_len (i := 81) R2 (mA13 rfl) (mg_A (t := 81) R2 rfl rfl))]) (fun c3 h => ?_)
  refine mIf h (by rw [show S2.rI (wkAd (gWords_cameBy S2 (α 7))) (v6).toNatClampNeg = V2.rI 81 (v6).toNatClampNeg from (mg_rI (i := 81) R2 (mA13 rfl) (mg_A (t := 81) R2 rfl rfl) rfl)]) (fun c4 h => ?_) (fun c4 h => ?_)
  · obtain ⟨v13, V14, hv13, h⟩ := mBW_some h
    refine LX3_tell hv13 R2 sl1A rfl rfl rfl (fun S14 R14 F14 => ?_)
    obtain ⟨v18, L19, V19, hv18, h⟩ := mBA_some h
    have mv18 : mP L19 ≤ mP Ln := MX10_writeRows hv18
    have qv18 : mP Ln1 ≤ mP L19 := by
      cases h
      exact Nat.le_refl _
    refine ⟨(mP Ln - mP L19) / 16, mP Ln - mP L19, by omega, by omega, ?_⟩
    refine LX10_writeRows hv18 R14 (mKe2 sl1A) rfl (mg_A (t := (l1A + 2)) R14 (mRe sl1A rfl) rfl) (by omega) (by omega) (fun S19 R19 F19 => ?_)
    obtain ⟨rfl, rfl, rfl⟩ := mRA3 h
    exact k _ R19 (F2.tr (F14.tr F19))
  · obtain ⟨v23, V24, hv23, h⟩ := mBW_some h
    refine LX3_tell hv23 R2 sl1A rfl rfl rfl (fun S24 R24 F24 => ?_)
    obtain ⟨v28, L29, V29, hv28, h⟩ := mBA_some h
    have mv28 : mP L29 ≤ mP Ln := MX10_writeItems hv28
    have qv28 : mP Ln1 ≤ mP L29 := by
      cases h
      exact Nat.le_refl _
    refine ⟨(mP Ln - mP L29) / 16, mP Ln - mP L29, by omega, by omega, ?_⟩
    refine LX10_writeItems hv28 R24 (mKe2 sl1A) rfl rfl (mg_A (t := (l1A + 2)) R24 (mRe sl1A rfl) rfl) (by omega) (by omega) (fun S29 R29 F29 => ?_)
    obtain ⟨rfl, rfl, rfl⟩ := mRA3 h
    exact k _ R29 (F2.tr (F24.tr F29))
end
