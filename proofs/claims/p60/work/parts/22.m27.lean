/-! LIFTED BY PROGRAM (lift.py): X6_solveMachines, X6_leastWay, X6_isWonBy, X6_judgeGame, X7_solvePairings, X7_greatest, X8_findPoint. -/
section
def mX6_solveMachines_b0 (F : Nat) (rec : Nat → (Nat → Nat) → Nat → Int32 → Int32 → Int32 → Int32 → mV → Option (Unit × (Nat → Nat) × mV)) (Ln : Nat → Nat) (l1A : Nat) (l2I : Int32) (l3I : Int32) (l4I : Int32) (V : mV) : Option (Unit × (Nat → Nat) × mV) :=
  (if (V.fI 8 7) ≤ l4I then (mBN (mX6_lettersAt F ((0 : Int32)) (l2I) V) fun v2 => (if 0 ≤ v2 then (mBW (mX3_tell F l1A ((0 : Int32)) (l3I) V) fun v8 V9 => (mBA (mX6_writeLetters F Ln (l2I) (l1A + 2) V9) fun v13 L14 V14 => some ((), L14, V14))) else (mBW (mX3_tell F l1A ((1 : Int32)) (l3I) V) fun v18 V19 => (rec 1 Ln l1A 0 0 0 ((0 : Int32)) V19)))) else (mBN (mX6_lowestLike F (l4I) V) fun v23 => (if v23 = l4I then (mLt (l3I + (1 : Int32)) fun x30 => (mLt (l4I + (1 : Int32)) fun x31 => (rec 0 Ln l1A (l2I) (x30) (x31) 0 V))) else (mLt (l4I + (1 : Int32)) fun x29 => (rec 0 Ln l1A (l2I) (l3I) (x29) 0 V)))))
def mX6_solveMachines_b1 (F : Nat) (rec : Nat → (Nat → Nat) → Nat → Int32 → Int32 → Int32 → Int32 → mV → Option (Unit × (Nat → Nat) × mV)) (Ln : Nat → Nat) (l1A : Nat) (l5I : Int32) (V : mV) : Option (Unit × (Nat → Nat) × mV) :=
  (if (V.fI 8 7) ≤ l5I then some ((), Ln, V) else (mBN (mX6_lowestLike F (l5I) V) fun v33 => (mBA (mX9_add F Ln (l1A + 2) (v33) V) fun v38 L39 V39 => (mLt (l5I + (1 : Int32)) fun x43 => (rec 1 L39 l1A 0 0 0 (x43) V39)))))
def mX6_solveMachines_go (F : Nat) : Nat → Nat → (Nat → Nat) → Nat → Int32 → Int32 → Int32 → Int32 → mV → Option (Unit × (Nat → Nat) × mV)
  | 0, _, _, _, _, _, _, _, _ => none
  | k' + 1, lab, Ln, l1A, l2I, l3I, l4I, l5I, V => if lab = 0 then mX6_solveMachines_b0 F (mX6_solveMachines_go F k') Ln l1A l2I l3I l4I V else if lab = 1 then mX6_solveMachines_b1 F (mX6_solveMachines_go F k') Ln l1A l5I V else none
def mX6_solveMachines_s (F : Nat) (rec : Nat → (Nat → Nat) → Nat → Int32 → Int32 → Int32 → Int32 → mV → Option (Unit × (Nat → Nat) × mV)) (Ln : Nat → Nat) (l1A : Nat) (V : mV) : Option (Unit × (Nat → Nat) × mV) :=
  (mBW (mX6_findLetters F l1A V) fun v44 V45 => (mBN (mX3_nodeAsked F l1A V45) fun v49 => (rec 0 Ln l1A (v49) ((0 : Int32)) ((0 : Int32)) 0 V45)))
def mX6_solveMachines (F : Nat) (Ln : Nat → Nat) (l1A : Nat) (V : mV) : Option (Unit × (Nat → Nat) × mV) := mX6_solveMachines_s F (mX6_solveMachines_go F F) Ln l1A V
set_option maxHeartbeats 4000000 in
set_option maxRecDepth 100000 in
theorem MX6_solveMachines_go {F : Nat} {v : Unit} {Ln1 : Nat → Nat} {V1 : mV} : ∀ k' : Nat, (∀ (l1A : Nat) (l2I : Int32) (l3I : Int32) (l4I : Int32) (Ln : Nat → Nat) (V : mV), mX6_solveMachines_go F k' 0 Ln l1A l2I l3I l4I 0 V = some (v, Ln1, V1) → mP Ln1 ≤ mP Ln) ∧ (∀ (l1A : Nat) (l5I : Int32) (Ln : Nat → Nat) (V : mV), mX6_solveMachines_go F k' 1 Ln l1A 0 0 0 l5I V = some (v, Ln1, V1) → mP Ln1 ≤ mP Ln) := by
  intro k'
  induction k' with
  | zero => exact ⟨(fun _ _ _ _ _ _ h => by cases h), (fun _ _ _ _ h => by cases h)⟩
  | succ k' ihM =>
    refine ⟨?_, ?_⟩
    · intro l1A l2I l3I l4I Ln V h
      rw [mX6_solveMachines_go, if_pos rfl] at h
      unfold mX6_solveMachines_b0 at h
      rcases mIf_some h with ⟨_, h⟩ | ⟨_, h⟩
      · obtain ⟨_, _, h⟩ := mBN_some h
        rcases mIf_some h with ⟨_, h⟩ | ⟨_, h⟩
        · obtain ⟨_, _, _, h⟩ := mBW_some h
          obtain ⟨_, _, _, z1, h⟩ := mBA_some h
          refine Nat.le_trans ?_ (MX6_writeLetters z1)
          cases h
          exact Nat.le_refl _
        · obtain ⟨_, _, _, h⟩ := mBW_some h
          exact ihM.2 _ _ _ _ h
      · obtain ⟨_, _, h⟩ := mBN_some h
        rcases mIf_some h with ⟨_, h⟩ | ⟨_, h⟩
        · obtain ⟨_, _, h⟩ := mLt_some h
          obtain ⟨_, _, h⟩ := mLt_some h
          exact ihM.1 _ _ _ _ _ _ h
        · obtain ⟨_, _, h⟩ := mLt_some h
          exact ihM.1 _ _ _ _ _ _ h
    · intro l1A l5I Ln V h
      rw [mX6_solveMachines_go, if_neg (by decide), if_pos rfl] at h
      unfold mX6_solveMachines_b1 at h
      rcases mIf_some h with ⟨_, h⟩ | ⟨_, h⟩
      · cases h
        exact Nat.le_refl _
      · obtain ⟨_, _, h⟩ := mBN_some h
        obtain ⟨_, _, _, z2, h⟩ := mBA_some h
        refine Nat.le_trans ?_ (MX9_add z2)
        obtain ⟨_, _, h⟩ := mLt_some h
        exact ihM.2 _ _ _ _ h
set_option maxHeartbeats 4000000 in
set_option maxRecDepth 100000 in
theorem MX6_solveMachines {F : Nat} {Ln Ln1 : Nat → Nat} {V V1 : mV} {v : Unit} {l1A : Nat} (h : mX6_solveMachines F Ln l1A V = some (v, Ln1, V1)) : mP Ln1 ≤ mP Ln := by
  have ihM := MX6_solveMachines_go (F := F) (v := v) (Ln1 := Ln1) (V1 := V1) F
  unfold mX6_solveMachines mX6_solveMachines_s at h
  obtain ⟨_, _, _, h⟩ := mBW_some h
  obtain ⟨_, _, h⟩ := mBN_some h
  exact ihM.1 _ _ _ _ _ _ h
set_option maxHeartbeats 4000000 in
set_option maxRecDepth 100000 in
theorem LX6_solveMachines_go {α : Nat → Nat} {k0 n0 : Nat} {F : Nat} {v : Unit} {Ln1 : Nat → Nat} {V1 : mV} {Φ : (Unit → wPS → Prop)} : ∀ k' : Nat, (∀ (l1A : Nat) (l2I : Int32) (l3I : Int32) (l4I : Int32) (S : wPS) (V : mV) (Ln : Nat → Nat) (c s : Nat), mRel α S Ln V → mK l1A = 3 → mX6_solveMachines_go F k' 0 Ln l1A l2I l3I l4I 0 V = some (v, Ln1, V1) → c + (mP Ln - mP Ln1) / 16 ≤ k0 → s + (mP Ln - mP Ln1) ≤ n0 → (∀ S1, mRel α S1 Ln1 V1 → mFr α S S1 → Φ v S1) → rX6_solveMachines_go F k0 n0 k' 0 c s (α 8) (α l1A) l2I l3I l4I 0 S Φ) ∧ (∀ (l1A : Nat) (l5I : Int32) (S : wPS) (V : mV) (Ln : Nat → Nat) (c s : Nat), mRel α S Ln V → mK l1A = 3 → mX6_solveMachines_go F k' 1 Ln l1A 0 0 0 l5I V = some (v, Ln1, V1) → c + (mP Ln - mP Ln1) / 16 ≤ k0 → s + (mP Ln - mP Ln1) ≤ n0 → (∀ S1, mRel α S1 Ln1 V1 → mFr α S S1 → Φ v S1) → rX6_solveMachines_go F k0 n0 k' 1 c s (α 8) (α l1A) 0 0 0 l5I S Φ) := by
  intro k'
  induction k' with
  | zero => exact ⟨(fun _ _ _ _ _ _ _ _ _ _ _ h _ _ _ => by cases h), (fun _ _ _ _ _ _ _ _ _ h _ _ _ => by cases h)⟩
  | succ k' ih =>
    have ihM := MX6_solveMachines_go (F := F) (v := v) (Ln1 := Ln1) (V1 := V1) k'
    refine ⟨?_, ?_⟩
    · intro l1A l2I l3I l4I S V Ln c s R sl1A h hk hn k
      rw [mX6_solveMachines_go, if_pos rfl] at h
      rw [rX6_solveMachines_go, if_pos rfl]
      unfold mX6_solveMachines_b0 at h
      unfold rX6_solveMachines_b0
      refine mIf h (by rw [show gMachines_size S (α 8) = V.fI 8 7 from (mg_I (i := 8) R (by decide) rfl 7)]) (fun c3 h => ?_) (fun c3 h => ?_)
      · obtain ⟨v2, hv2, h⟩ := mBN_some h
        refine LX6_lettersAt hv2 R rfl rfl rfl ?_
        refine mIf h Iff.rfl (fun c4 h => ?_) (fun c4 h => ?_)
        · obtain ⟨v8, V9, hv8, h⟩ := mBW_some h
          refine LX3_tell hv8 R sl1A rfl rfl rfl (fun S9 R9 F9 => ?_)
          obtain ⟨v13, L14, V14, hv13, h⟩ := mBA_some h
          have mv13 : mP L14 ≤ mP Ln := MX6_writeLetters hv13
          have qv13 : mP Ln1 ≤ mP L14 := by
            cases h
            exact Nat.le_refl _
          refine ⟨(mP Ln - mP L14) / 16, mP Ln - mP L14, by omega, by omega, ?_⟩
          refine LX6_writeLetters hv13 R9 (mKe2 sl1A) rfl rfl (mg_A (t := (l1A + 2)) R9 (mRe sl1A rfl) rfl) (by omega) (by omega) (fun S14 R14 F14 => ?_)
          obtain ⟨rfl, rfl, rfl⟩ := mRA3 h
          exact k _ R14 (F9.tr F14)
        · obtain ⟨v18, V19, hv18, h⟩ := mBW_some h
          refine LX3_tell hv18 R sl1A rfl rfl rfl (fun S19 R19 F19 => ?_)
          exact ih.2 _ _ _ _ _ _ _ R19 sl1A h (by omega) (by omega) (fun S1 R1 F1 => k S1 R1 (F19.tr F1))
      · obtain ⟨v23, hv23, h⟩ := mBN_some h
        refine LX6_lowestLike hv23 R rfl rfl ?_
        refine mIf h Iff.rfl (fun c5 h => ?_) (fun c5 h => ?_)
        · refine mLet h rfl (fun x30 ex30 h => ?_)
          refine mLet h rfl (fun x31 ex31 h => ?_)
          exact ih.1 _ _ _ _ _ _ _ _ _ R sl1A h (by omega) (by omega) (fun S1 R1 F1 => k S1 R1 F1)
        · refine mLet h rfl (fun x29 ex29 h => ?_)
          exact ih.1 _ _ _ _ _ _ _ _ _ R sl1A h (by omega) (by omega) (fun S1 R1 F1 => k S1 R1 F1)
    · intro l1A l5I S V Ln c s R sl1A h hk hn k
      rw [mX6_solveMachines_go, if_neg (by decide), if_pos rfl] at h
      rw [rX6_solveMachines_go, if_neg (by decide), if_pos rfl]
      unfold mX6_solveMachines_b1 at h
      unfold rX6_solveMachines_b1
      refine mIf h (by rw [show gMachines_size S (α 8) = V.fI 8 7 from (mg_I (i := 8) R (by decide) rfl 7)]) (fun c6 h => ?_) (fun c6 h => ?_)
      · obtain ⟨rfl, rfl, rfl⟩ := mRA3 h
        exact k _ R mFr.rf
      · obtain ⟨v33, hv33, h⟩ := mBN_some h
        refine LX6_lowestLike hv33 R rfl rfl ?_
        obtain ⟨v38, L39, V39, hv38, h⟩ := mBA_some h
        have mv38 : mP L39 ≤ mP Ln := MX9_add hv38
        have qv38 : mP Ln1 ≤ mP L39 := by
          obtain ⟨_, _, h⟩ := mLt_some h
          exact ihM.2 _ _ _ _ h
        refine ⟨(mP Ln - mP L39) / 16, mP Ln - mP L39, by omega, by omega, ?_⟩
        refine LX9_add hv38 R (mKe2 sl1A) (mg_A (t := (l1A + 2)) R (mRe sl1A rfl) rfl) rfl (by omega) (by omega) (fun S39 R39 F39 => ?_)
        refine mLet h rfl (fun x43 ex43 h => ?_)
        exact ih.2 _ _ _ _ _ _ _ R39 sl1A h (by omega) (by omega) (fun S1 R1 F1 => k S1 R1 (F39.tr F1))
set_option maxHeartbeats 4000000 in
set_option maxRecDepth 100000 in
theorem LX6_solveMachines {α : Nat → Nat} {F : Nat} {S : wPS} {Ln Ln1 : Nat → Nat} {V V1 : mV} {v : Unit} {Φ : (Unit → wPS → Prop)} {l0Ax : Nat} {l1Ax : Nat} {l1A : Nat} {k0 n0 : Nat} (h : mX6_solveMachines F Ln l1A V = some (v, Ln1, V1)) (R : mRel α S Ln V) (sl1A : mK l1A = 3) (el0A : l0Ax = α 8) (el1A : l1Ax = α l1A) (hk : (mP Ln - mP Ln1) / 16 ≤ k0) (hn : mP Ln - mP Ln1 ≤ n0) (k : (∀ S1, mRel α S1 Ln1 V1 → mFr α S S1 → Φ v S1)) : rX6_solveMachines F k0 n0 l0Ax l1Ax S Φ := by
  have el0A := el0A.symm
  subst el0A
  have el1A := el1A.symm
  subst el1A
  have ih := LX6_solveMachines_go  (α := α) (F := F) (v := v) (k0 := k0) (n0 := n0) (Ln1 := Ln1) (Φ := Φ) (V1 := V1) F
  have ihM := MX6_solveMachines_go (F := F) (v := v) (Ln1 := Ln1) (V1 := V1) F
  unfold mX6_solveMachines mX6_solveMachines_s at h
  unfold rX6_solveMachines rX6_solveMachines_s
  obtain ⟨v44, V45, hv44, h⟩ := mBW_some h
  refine LX6_findLetters hv44 R sl1A rfl rfl (fun S45 R45 F45 => ?_)
  obtain ⟨v49, hv49, h⟩ := mBN_some h
  refine LX3_nodeAsked hv49 R45 sl1A rfl ?_
  exact ih.1 _ _ _ _ _ _ _ _ _ R45 sl1A h (by omega) (by omega) (fun S1 R1 F1 => k S1 R1 (F45.tr F1))
def mX6_leastWay_b0 (F : Nat) (rec : Nat → Int32 → Int32 → Int32 → Int32 → Int32 → mV → Option (Int32 × mV)) (l1I : Int32) (l2I : Int32) (l3I : Int32) (l4I : Int32) (l5I : Int32) (V : mV) : Option (Int32 × mV) :=
  (if (V.fI 8 7) ≤ l5I then (if l1I < 0 ∨ 8 ≤ (l1I).toNatClampNeg then none else (mLt (mI V 90 (l1I) (l4I)) fun V3 => (mBN (mX11_lowest F (l4I)) fun v4 => some (v4, V3)))) else (mBN (mX11_has F (l4I) (l5I)) fun v9 => (if v9 = 0 then (mLt (l5I + (1 : Int32)) fun x15 => (rec 0 (l1I) (l2I) (l3I) (l4I) (x15) V)) else (if l1I < 0 ∨ 8 ≤ (l1I).toNatClampNeg then none else (mLt (mI V 90 (l1I) (((1 : Int32) <<< (l5I &&& 31)))) fun V17 => (mBN (mX6_wonByFirst F 48 ((((1 : Int32) <<< ((V17.fI 8 7) &&& 31)) - (1 : Int32))) ((0 : Int32)) V17) fun v18 => (mBN (mX11_has F (v18) (l3I)) fun v23 => (if l2I = 0 then (if v23 = (1 : Int32) then some (l5I, V17) else (mLt (l5I + (1 : Int32)) fun x32 => (rec 0 (l1I) (l2I) (l3I) (l4I) (x32) V17))) else (if v23 = (0 : Int32) then some (l5I, V17) else (mLt (l5I + (1 : Int32)) fun x30 => (rec 0 (l1I) (l2I) (l3I) (l4I) (x30) V17)))))))))))
def mX6_leastWay_go (F : Nat) : Nat → Nat → Int32 → Int32 → Int32 → Int32 → Int32 → mV → Option (Int32 × mV)
  | 0, _, _, _, _, _, _, _ => none
  | k' + 1, lab, l1I, l2I, l3I, l4I, l5I, V => if lab = 0 then mX6_leastWay_b0 F (mX6_leastWay_go F k') l1I l2I l3I l4I l5I V else none
def mX6_leastWay_s (F : Nat) (rec : Nat → Int32 → Int32 → Int32 → Int32 → Int32 → mV → Option (Int32 × mV)) (l1I : Int32) (l2I : Int32) (l3I : Int32) (V : mV) : Option (Int32 × mV) :=
  (if l1I < 0 ∨ 8 ≤ (l1I).toNatClampNeg then none else (mLt (V.rI 90 (l1I).toNatClampNeg) fun x34 => (rec 0 (l1I) (l2I) (l3I) (x34) ((0 : Int32)) V)))
def mX6_leastWay (F : Nat) (l1I : Int32) (l2I : Int32) (l3I : Int32) (V : mV) : Option (Int32 × mV) := mX6_leastWay_s F (mX6_leastWay_go F F) l1I l2I l3I V
set_option maxHeartbeats 4000000 in
set_option maxRecDepth 100000 in
theorem LX6_leastWay_go {α : Nat → Nat} {F : Nat} {Ln : Nat → Nat} {v : Int32} {V1 : mV} {Φ : (Int32 → wPS → Prop)} : ∀ k' : Nat, (∀ (l1I : Int32) (l2I : Int32) (l3I : Int32) (l4I : Int32) (l5I : Int32) (S : wPS) (V : mV) , mRel α S Ln V → mX6_leastWay_go F k' 0 l1I l2I l3I l4I l5I V = some (v, V1) → (∀ S1, mRel α S1 Ln V1 → mFr α S S1 → Φ v S1) → rX6_leastWay_go F k' 0 (α 8) l1I l2I l3I l4I l5I S Φ) := by
  intro k'
  induction k' with
  | zero => exact (fun _ _ _ _ _ _ _ _ h _ => by cases h)
  | succ k' ih =>
    intro l1I l2I l3I l4I l5I S V R h k
    rw [mX6_leastWay_go, if_pos rfl] at h
    rw [rX6_leastWay_go, if_pos rfl]
    unfold mX6_leastWay_b0 at h
    unfold rX6_leastWay_b0
    refine mIf h (by rw [show gMachines_size S (α 8) = V.fI 8 7 from (mg_I (i := 8) R (by decide) rfl 7)]) (fun c1 h => ?_) (fun c1 h => ?_)
    · refine mGd h (by rw [show S.len (wkAd (gMachines_ways S (α 8))) = 8 from (mg_len (i := 90) R (mA13 rfl) (mg_A (t := 90) R rfl rfl))]) (fun c2 h => ?_)
      obtain ⟨V3, eV3, h⟩ := mLt_some h
      refine mU_I eV3 R (mA13 rfl) (mg_A (t := 90) R rfl rfl) rfl rfl (fun S3 R3 F3 => ?_)
      obtain ⟨v4, hv4, h⟩ := mBN_some h
      refine LX11_lowest hv4 rfl ?_
      obtain ⟨rfl, rfl⟩ := mRW h
      exact k _ R3 F3
    · obtain ⟨v9, hv9, h⟩ := mBN_some h
      refine LX11_has hv9 rfl rfl ?_
      refine mIf h Iff.rfl (fun c3 h => ?_) (fun c3 h => ?_)
      · refine mLet h rfl (fun x15 ex15 h => ?_)
        exact ih _ _ _ _ _ _ _ R h (fun S1 R1 F1 => k S1 R1 F1)
      · refine mGd h (by rw [show S.len (wkAd (gMachines_ways S (α 8))) = 8 from (mg_len (i := 90) R (mA13 rfl) (mg_A (t := 90) R rfl rfl))]) (fun c4 h => ?_)
        obtain ⟨V17, eV17, h⟩ := mLt_some h
        refine mU_I eV17 R (mA13 rfl) (mg_A (t := 90) R rfl rfl) rfl rfl (fun S17 R17 F17 => ?_)
        obtain ⟨v18, hv18, h⟩ := mBN_some h
        refine LX6_wonByFirst hv18 R17 rfl (by rw [show gMachines_size S17 (α 8) = V17.fI 8 7 from (mg_I (i := 8) R17 (by decide) rfl 7)]) rfl ?_
        obtain ⟨v23, hv23, h⟩ := mBN_some h
        refine LX11_has hv23 rfl rfl ?_
        refine mIf h Iff.rfl (fun c5 h => ?_) (fun c5 h => ?_)
        · refine mIf h Iff.rfl (fun c6 h => ?_) (fun c6 h => ?_)
          · obtain ⟨rfl, rfl⟩ := mRW h
            exact k _ R17 F17
          · refine mLet h rfl (fun x32 ex32 h => ?_)
            exact ih _ _ _ _ _ _ _ R17 h (fun S1 R1 F1 => k S1 R1 (F17.tr F1))
        · refine mIf h Iff.rfl (fun c7 h => ?_) (fun c7 h => ?_)
          · obtain ⟨rfl, rfl⟩ := mRW h
            exact k _ R17 F17
          · refine mLet h rfl (fun x30 ex30 h => ?_)
            exact ih _ _ _ _ _ _ _ R17 h (fun S1 R1 F1 => k S1 R1 (F17.tr F1))
set_option maxHeartbeats 4000000 in
set_option maxRecDepth 100000 in
theorem LX6_leastWay {α : Nat → Nat} {F : Nat} {S : wPS} {Ln : Nat → Nat} {V V1 : mV} {v : Int32} {Φ : (Int32 → wPS → Prop)} {l0Ax : Nat} {l1Ix l1I : Int32} {l2Ix l2I : Int32} {l3Ix l3I : Int32} (h : mX6_leastWay F l1I l2I l3I V = some (v, V1)) (R : mRel α S Ln V) (el0A : l0Ax = α 8) (el1I : l1Ix = l1I) (el2I : l2Ix = l2I) (el3I : l3Ix = l3I) (k : (∀ S1, mRel α S1 Ln V1 → mFr α S S1 → Φ v S1)) : rX6_leastWay F l0Ax l1Ix l2Ix l3Ix S Φ := by
  have el0A := el0A.symm
  subst el0A
  have el1I := el1I.symm
  subst el1I
  have el2I := el2I.symm
  subst el2I
  have el3I := el3I.symm
  subst el3I
  have ih := LX6_leastWay_go  (α := α) (F := F) (v := v) (Ln := Ln) (Φ := Φ) (V1 := V1) F
  unfold mX6_leastWay mX6_leastWay_s at h
  unfold rX6_leastWay rX6_leastWay_s
  refine mGd h (by rw [show S.len (wkAd (gMachines_ways S (α 8))) = 8 from (mg_len (i := 90) R (mA13 rfl) (mg_A (t := 90) R rfl rfl))]) (fun c8 h => ?_)
  refine mLet h (by rw [show S.rI (wkAd (gMachines_ways S (α 8))) (l1I).toNatClampNeg = V.rI 90 (l1I).toNatClampNeg from (mg_rI (i := 90) R (mA13 rfl) (mg_A (t := 90) R rfl rfl) rfl)]) (fun x34 ex34 h => ?_)
  exact ih _ _ _ _ _ _ _ R h (fun S1 R1 F1 => k S1 R1 F1)
def mX6_isWonBy (F : Nat) (l1I : Int32) (l2I : Int32) (V : mV) : Option Int32 :=
  (mBN (mX6_wonByFirst F 48 ((((1 : Int32) <<< ((V.fI 8 7) &&& 31)) - (1 : Int32))) ((0 : Int32)) V) fun v1 => (mBN (mX11_has F (v1) (l2I)) fun v6 => (if l1I = 0 then (if v6 = (1 : Int32) then some ((1 : Int32)) else some ((0 : Int32))) else (if v6 = (0 : Int32) then some ((1 : Int32)) else some ((0 : Int32))))))
set_option maxHeartbeats 4000000 in
set_option maxRecDepth 100000 in
theorem LX6_isWonBy {α : Nat → Nat} {F : Nat} {S : wPS} {Ln : Nat → Nat} {V : mV} {v : Int32} {Φ : (Int32 → wPS → Prop)} {l0Ax : Nat} {l1Ix l1I : Int32} {l2Ix l2I : Int32} (h : mX6_isWonBy F l1I l2I V = some v) (R : mRel α S Ln V) (el0A : l0Ax = α 8) (el1I : l1Ix = l1I) (el2I : l2Ix = l2I) (k : (Φ v S)) : rX6_isWonBy F l0Ax l1Ix l2Ix S Φ := by
  have el0A := el0A.symm
  subst el0A
  have el1I := el1I.symm
  subst el1I
  have el2I := el2I.symm
  subst el2I
  unfold mX6_isWonBy at h
  unfold rX6_isWonBy
  obtain ⟨v1, hv1, h⟩ := mBN_some h
  refine LX6_wonByFirst hv1 R rfl (by rw [show gMachines_size S (α 8) = V.fI 8 7 from (mg_I (i := 8) R (by decide) rfl 7)]) rfl ?_
  obtain ⟨v6, hv6, h⟩ := mBN_some h
  refine LX11_has hv6 rfl rfl ?_
  refine mIf h Iff.rfl (fun c1 h => ?_) (fun c1 h => ?_)
  · refine mIf h Iff.rfl (fun c2 h => ?_) (fun c2 h => ?_)
    · cases h
      exact k
    · cases h
      exact k
  · refine mIf h Iff.rfl (fun c3 h => ?_) (fun c3 h => ?_)
    · cases h
      exact k
    · cases h
      exact k
def mX6_judgeGame_b0 (F : Nat) (rec : Nat → (Nat → Nat) → Nat → Nat → Int32 → Int32 → mV → Option (Int32 × mV)) (Ln : Nat → Nat) (l1A : Nat) (l2A : Nat) (l3I : Int32) (l4I : Int32) (V : mV) : Option (Int32 × mV) :=
  (if (V.fI 8 7) ≤ l4I then (mBN (mX3_nodeAsked F l1A V) fun v2 => (mBN (mX6_isWonBy F (l3I) (v2) V) fun v7 => (if v7 = 0 then some ((2 : Int32), V) else some ((0 : Int32), V)))) else (mBN (mX9_at F Ln l2A (l4I) V) fun v13 => (if l4I < 0 ∨ 8 ≤ (l4I).toNatClampNeg then none else (if (V.rI 88 (l4I).toNatClampNeg) = l3I then (if v13 < 0 then some ((1 : Int32), V) else (if (V.fI 8 7) ≤ v13 then some ((1 : Int32), V) else (if l4I < 0 ∨ 8 ≤ (l4I).toNatClampNeg then none else (mBN (mX11_has F ((V.rI 90 (l4I).toNatClampNeg)) (v13)) fun v23 => (if v23 = 0 then some ((1 : Int32), V) else (if l4I < 0 ∨ 8 ≤ (l4I).toNatClampNeg then none else (mLt (mI V 90 (l4I) (((1 : Int32) <<< (v13 &&& 31)))) fun V30 => (mLt (l4I + (1 : Int32)) fun x31 => (rec 0 Ln l1A l2A (l3I) (x31) V30))))))))) else (if v13 = (-1 : Int32) then (mLt (l4I + (1 : Int32)) fun x33 => (rec 0 Ln l1A l2A (l3I) (x33) V)) else some ((1 : Int32), V))))))
def mX6_judgeGame_go (F : Nat) : Nat → Nat → (Nat → Nat) → Nat → Nat → Int32 → Int32 → mV → Option (Int32 × mV)
  | 0, _, _, _, _, _, _, _ => none
  | k' + 1, lab, Ln, l1A, l2A, l3I, l4I, V => if lab = 0 then mX6_judgeGame_b0 F (mX6_judgeGame_go F k') Ln l1A l2A l3I l4I V else none
def mX6_judgeGame_s (F : Nat) (rec : Nat → (Nat → Nat) → Nat → Nat → Int32 → Int32 → mV → Option (Int32 × mV)) (Ln : Nat → Nat) (l1A : Nat) (l2A : Nat) (l3I : Int32) (V : mV) : Option (Int32 × mV) :=
  (mBW (mX6_loadNodes F l1A V) fun v34 V35 => (if (V35.fI l2A 1) = (V35.fI 8 7) then (rec 0 Ln l1A l2A (l3I) ((0 : Int32)) V35) else some ((1 : Int32), V35)))
def mX6_judgeGame (F : Nat) (Ln : Nat → Nat) (l1A : Nat) (l2A : Nat) (l3I : Int32) (V : mV) : Option (Int32 × mV) := mX6_judgeGame_s F (mX6_judgeGame_go F F) Ln l1A l2A l3I V
set_option maxHeartbeats 4000000 in
set_option maxRecDepth 100000 in
theorem LX6_judgeGame_go {α : Nat → Nat} {F : Nat} {v : Int32} {V1 : mV} {Φ : (Int32 → wPS → Prop)} : ∀ k' : Nat, (∀ (l1A : Nat) (l2A : Nat) (l3I : Int32) (l4I : Int32) (S : wPS) (V : mV) (Ln : Nat → Nat) , mRel α S Ln V → mK l1A = 3 → mK l2A = 9 → mX6_judgeGame_go F k' 0 Ln l1A l2A l3I l4I V = some (v, V1) → (∀ S1, mRel α S1 Ln V1 → mFr α S S1 → Φ v S1) → rX6_judgeGame_go F k' 0 (α 8) (α l1A) (α l2A) l3I l4I S Φ) := by
  intro k'
  induction k' with
  | zero => exact (fun _ _ _ _ _ _ _ _ _ _ h _ => by cases h)
  | succ k' ih =>
    intro l1A l2A l3I l4I S V Ln R sl1A sl2A h k
    rw [mX6_judgeGame_go, if_pos rfl] at h
    rw [rX6_judgeGame_go, if_pos rfl]
    unfold mX6_judgeGame_b0 at h
    unfold rX6_judgeGame_b0
    refine mIf h (by rw [show gMachines_size S (α 8) = V.fI 8 7 from (mg_I (i := 8) R (by decide) rfl 7)]) (fun c1 h => ?_) (fun c1 h => ?_)
    · obtain ⟨v2, hv2, h⟩ := mBN_some h
      refine LX3_nodeAsked hv2 R sl1A rfl ?_
      obtain ⟨v7, hv7, h⟩ := mBN_some h
      refine LX6_isWonBy hv7 R rfl rfl rfl ?_
      refine mIf h Iff.rfl (fun c2 h => ?_) (fun c2 h => ?_)
      · obtain ⟨rfl, rfl⟩ := mRW h
        exact k _ R mFr.rf
      · obtain ⟨rfl, rfl⟩ := mRW h
        exact k _ R mFr.rf
    · obtain ⟨v13, hv13, h⟩ := mBN_some h
      refine LX9_at hv13 R sl2A rfl rfl ?_
      refine mGd h (by rw [show S.len (wkAd (gMachines_owners S (α 8))) = 8 from (mg_len (i := 88) R (mA13 rfl) (mg_A (t := 88) R rfl rfl))]) (fun c3 h => ?_)
      refine mIf h (by rw [show S.rI (wkAd (gMachines_owners S (α 8))) (l4I).toNatClampNeg = V.rI 88 (l4I).toNatClampNeg from (mg_rI (i := 88) R (mA13 rfl) (mg_A (t := 88) R rfl rfl) rfl)]) (fun c4 h => ?_) (fun c4 h => ?_)
      · refine mIf h Iff.rfl (fun c5 h => ?_) (fun c5 h => ?_)
        · obtain ⟨rfl, rfl⟩ := mRW h
          exact k _ R mFr.rf
        · refine mIf h (by rw [show gMachines_size S (α 8) = V.fI 8 7 from (mg_I (i := 8) R (by decide) rfl 7)]) (fun c6 h => ?_) (fun c6 h => ?_)
          · obtain ⟨rfl, rfl⟩ := mRW h
            exact k _ R mFr.rf
          · refine mGd h (by rw [show S.len (wkAd (gMachines_ways S (α 8))) = 8 from (mg_len (i := 90) R (mA13 rfl) (mg_A (t := 90) R rfl rfl))]) (fun c7 h => ?_)
            obtain ⟨v23, hv23, h⟩ := mBN_some h
            refine LX11_has hv23 (by rw [show S.rI (wkAd (gMachines_ways S (α 8))) (l4I).toNatClampNeg = V.rI 90 (l4I).toNatClampNeg from (mg_rI (i := 90) R (mA13 rfl) (mg_A (t := 90) R rfl rfl) rfl)]) rfl ?_
            refine mIf h Iff.rfl (fun c8 h => ?_) (fun c8 h => ?_)
            · obtain ⟨rfl, rfl⟩ := mRW h
              exact k _ R mFr.rf
            · refine mGd h (by rw [show S.len (wkAd (gMachines_ways S (α 8))) = 8 from (mg_len (i := 90) R (mA13 rfl) (mg_A (t := 90) R rfl rfl))]) (fun c9 h => ?_)
              obtain ⟨V30, eV30, h⟩ := mLt_some h
              refine mU_I eV30 R (mA13 rfl) (mg_A (t := 90) R rfl rfl) rfl rfl (fun S30 R30 F30 => ?_)
              refine mLet h rfl (fun x31 ex31 h => ?_)
              exact ih _ _ _ _ _ _ _ R30 sl1A sl2A h (fun S1 R1 F1 => k S1 R1 (F30.tr F1))
      · refine mIf h Iff.rfl (fun c10 h => ?_) (fun c10 h => ?_)
        · refine mLet h rfl (fun x33 ex33 h => ?_)
          exact ih _ _ _ _ _ _ _ R sl1A sl2A h (fun S1 R1 F1 => k S1 R1 F1)
        · obtain ⟨rfl, rfl⟩ := mRW h
          exact k _ R mFr.rf
set_option maxHeartbeats 4000000 in
set_option maxRecDepth 100000 in
theorem LX6_judgeGame {α : Nat → Nat} {F : Nat} {S : wPS} {Ln : Nat → Nat} {V V1 : mV} {v : Int32} {Φ : (Int32 → wPS → Prop)} {l0Ax : Nat} {l1Ax : Nat} {l1A : Nat} {l2Ax : Nat} {l2A : Nat} {l3Ix l3I : Int32} (h : mX6_judgeGame F Ln l1A l2A l3I V = some (v, V1)) (R : mRel α S Ln V) (sl1A : mK l1A = 3) (sl2A : mK l2A = 9) (el0A : l0Ax = α 8) (el1A : l1Ax = α l1A) (el2A : l2Ax = α l2A) (el3I : l3Ix = l3I) (k : (∀ S1, mRel α S1 Ln V1 → mFr α S S1 → Φ v S1)) : rX6_judgeGame F l0Ax l1Ax l2Ax l3Ix S Φ := by
  have el0A := el0A.symm
  subst el0A
  have el1A := el1A.symm
  subst el1A
  have el2A := el2A.symm
  subst el2A
  have el3I := el3I.symm
  subst el3I
  have ih := LX6_judgeGame_go  (α := α) (F := F) (v := v) (Φ := Φ) (V1 := V1) F
  unfold mX6_judgeGame mX6_judgeGame_s at h
  unfold rX6_judgeGame rX6_judgeGame_s
  obtain ⟨v34, V35, hv34, h⟩ := mBW_some h
  refine LX6_loadNodes hv34 R sl1A rfl rfl (fun S35 R35 F35 => ?_)
  refine mIf h (by rw [show gMachines_size S35 (α 8) = V35.fI 8 7 from (mg_I (i := 8) R35 (by decide) rfl 7), show gRow_count S35 (α l2A) = V35.fI l2A 1 from (mg_I (i := l2A) R35 (mO9 sl2A) rfl 1)]) (fun c11 h => ?_) (fun c11 h => ?_)
  · exact ih _ _ _ _ _ _ _ R35 sl1A sl2A h (fun S1 R1 F1 => k S1 R1 (F35.tr F1))
  · obtain ⟨rfl, rfl⟩ := mRW h
    exact k _ R35 F35
def mX7_solvePairings (F : Nat) (Ln : Nat → Nat) (l1A : Nat) (V : mV) : Option (Unit × (Nat → Nat) × mV) :=
  (mBW (mX7_countPairs F l1A V) fun v1 V2 => (mLt (((1 : Int32) <<< ((V2.fI l1A 1) &&& 31)) - (1 : Int32)) fun x6 => (if x6 < 0 ∨ 512 ≤ (x6).toNatClampNeg then none else (mLt ((V2.fI l1A 1) - ((2 : Int32) * (V2.rI 20 (x6).toNatClampNeg))) fun x8 => (if (V2.fI l1A 8) < x8 then (mBW (mX3_tell F l1A ((0 : Int32)) (x8) V2) fun v10 V11 => (mBA (mX7_writeNodes F Ln ((V11.fI l1A 1)) (l1A + 2) V11) fun v15 L16 V16 => some ((), L16, V16))) else (mBW (mX3_tell F l1A ((1 : Int32)) (x8) V2) fun v20 V21 => (mBA (mX7_writePairing F Ln ((V21.fI l1A 1)) (l1A + 2) V21) fun v25 L26 V26 => some ((), L26, V26))))))))
set_option maxHeartbeats 4000000 in
set_option maxRecDepth 100000 in
theorem MX7_solvePairings {F : Nat} {Ln Ln1 : Nat → Nat} {V V1 : mV} {v : Unit} {l1A : Nat} (h : mX7_solvePairings F Ln l1A V = some (v, Ln1, V1)) : mP Ln1 ≤ mP Ln := by
  unfold mX7_solvePairings at h
  obtain ⟨_, _, _, h⟩ := mBW_some h
  obtain ⟨_, _, h⟩ := mLt_some h
  obtain ⟨_, h⟩ := mGd_some h
  obtain ⟨_, _, h⟩ := mLt_some h
  rcases mIf_some h with ⟨_, h⟩ | ⟨_, h⟩
  · obtain ⟨_, _, _, h⟩ := mBW_some h
    obtain ⟨_, _, _, z1, h⟩ := mBA_some h
    refine Nat.le_trans ?_ (MX7_writeNodes z1)
    cases h
    exact Nat.le_refl _
  · obtain ⟨_, _, _, h⟩ := mBW_some h
    obtain ⟨_, _, _, z2, h⟩ := mBA_some h
    refine Nat.le_trans ?_ (MX7_writePairing z2)
    cases h
    exact Nat.le_refl _
set_option maxHeartbeats 4000000 in
set_option maxRecDepth 100000 in
theorem LX7_solvePairings {α : Nat → Nat} {F : Nat} {S : wPS} {Ln Ln1 : Nat → Nat} {V V1 : mV} {v : Unit} {Φ : (Unit → wPS → Prop)} {l0Ax : Nat} {l1Ax : Nat} {l1A : Nat} {k0 n0 : Nat} (h : mX7_solvePairings F Ln l1A V = some (v, Ln1, V1)) (R : mRel α S Ln V) (sl1A : mK l1A = 3) (el0A : l0Ax = α 2) (el1A : l1Ax = α l1A) (hk : (mP Ln - mP Ln1) / 16 ≤ k0) (hn : mP Ln - mP Ln1 ≤ n0) (k : (∀ S1, mRel α S1 Ln1 V1 → mFr α S S1 → Φ v S1)) : rX7_solvePairings F k0 n0 l0Ax l1Ax S Φ := by
  have el0A := el0A.symm
  subst el0A
  have el1A := el1A.symm
  subst el1A
  unfold mX7_solvePairings at h
  unfold rX7_solvePairings
  obtain ⟨v1, V2, hv1, h⟩ := mBW_some h
  refine LX7_countPairs hv1 R sl1A rfl rfl (fun S2 R2 F2 => ?_)
  refine mLet h (by rw [show gEntry_size S2 (α l1A) = V2.fI l1A 1 from (mg_I (i := l1A) R2 (mO3 sl1A) rfl 1)]) (fun x6 ex6 h => ?_)
  refine mGd h (by rw [show S2.len (wkAd (gNetworks_best S2 (α 2))) = 512 from (mg_len (i := 20) R2 (mA13 rfl) (mg_A (t := 20) R2 rfl rfl))]) (fun c3 h => ?_)
  refine mLet h (by rw [show S2.rI (wkAd (gNetworks_best S2 (α 2))) (x6).toNatClampNeg = V2.rI 20 (x6).toNatClampNeg from (mg_rI (i := 20) R2 (mA13 rfl) (mg_A (t := 20) R2 rfl rfl) rfl), show gEntry_size S2 (α l1A) = V2.fI l1A 1 from (mg_I (i := l1A) R2 (mO3 sl1A) rfl 1)]) (fun x8 ex8 h => ?_)
  refine mIf h (by rw [show gEntry_boundNow S2 (α l1A) = V2.fI l1A 8 from (mg_I (i := l1A) R2 (mO3 sl1A) rfl 8)]) (fun c4 h => ?_) (fun c4 h => ?_)
  · obtain ⟨v10, V11, hv10, h⟩ := mBW_some h
    refine LX3_tell hv10 R2 sl1A rfl rfl rfl (fun S11 R11 F11 => ?_)
    obtain ⟨v15, L16, V16, hv15, h⟩ := mBA_some h
    have mv15 : mP L16 ≤ mP Ln := MX7_writeNodes hv15
    have qv15 : mP Ln1 ≤ mP L16 := by
      cases h
      exact Nat.le_refl _
    refine ⟨(mP Ln - mP L16) / 16, mP Ln - mP L16, by omega, by omega, ?_⟩
    refine LX7_writeNodes hv15 R11 (mKe2 sl1A) rfl (by rw [show gEntry_size S11 (α l1A) = V11.fI l1A 1 from (mg_I (i := l1A) R11 (mO3 sl1A) rfl 1)]) (mg_A (t := (l1A + 2)) R11 (mRe sl1A rfl) rfl) (by omega) (by omega) (fun S16 R16 F16 => ?_)
    obtain ⟨rfl, rfl, rfl⟩ := mRA3 h
    exact k _ R16 (F2.tr (F11.tr F16))
  · obtain ⟨v20, V21, hv20, h⟩ := mBW_some h
    refine LX3_tell hv20 R2 sl1A rfl rfl rfl (fun S21 R21 F21 => ?_)
    obtain ⟨v25, L26, V26, hv25, h⟩ := mBA_some h
    have mv25 : mP L26 ≤ mP Ln := MX7_writePairing hv25
    have qv25 : mP Ln1 ≤ mP L26 := by
      cases h
      exact Nat.le_refl _
    refine ⟨(mP Ln - mP L26) / 16, mP Ln - mP L26, by omega, by omega, ?_⟩
    refine LX7_writePairing hv25 R21 (mKe2 sl1A) rfl (by rw [show gEntry_size S21 (α l1A) = V21.fI l1A 1 from (mg_I (i := l1A) R21 (mO3 sl1A) rfl 1)]) (mg_A (t := (l1A + 2)) R21 (mRe sl1A rfl) rfl) (by omega) (by omega) (fun S26 R26 F26 => ?_)
    obtain ⟨rfl, rfl, rfl⟩ := mRA3 h
    exact k _ R26 (F2.tr (F21.tr F26))
def mX7_greatest_b0 (F : Nat) (rec : Nat → Int32 → mV → Option (Int32 × mV)) (l1I : Int32) (V : mV) : Option (Int32 × mV) :=
  (if (70 : Int32) ≤ l1I then some (l1I, V) else (mBW (mX7_leadsOn F ((0 : Int32)) (((V.fI 2 8) - (1 : Int32))) ((0 : Int32)) V) fun v2 V3 => (if v2 = 0 then some (l1I, V3) else (mLt (l1I + (1 : Int32)) fun x8 => (rec 0 (x8) V3)))))
def mX7_greatest_go (F : Nat) : Nat → Nat → Int32 → mV → Option (Int32 × mV)
  | 0, _, _, _ => none
  | k' + 1, lab, l1I, V => if lab = 0 then mX7_greatest_b0 F (mX7_greatest_go F k') l1I V else none
def mX7_greatest_s (F : Nat) (rec : Nat → Int32 → mV → Option (Int32 × mV)) (V : mV) : Option (Int32 × mV) :=
  (mBW (mJ7_fill_53178 F 24 ((0 : Int32)) V) fun v9 V10 => (rec 0 ((0 : Int32)) V10))
def mX7_greatest (F : Nat) (V : mV) : Option (Int32 × mV) := mX7_greatest_s F (mX7_greatest_go F F) V
set_option maxHeartbeats 4000000 in
set_option maxRecDepth 100000 in
theorem LX7_greatest_go {α : Nat → Nat} {F : Nat} {Ln : Nat → Nat} {v : Int32} {V1 : mV} {Φ : (Int32 → wPS → Prop)} : ∀ k' : Nat, (∀ (l1I : Int32) (S : wPS) (V : mV) , mRel α S Ln V → mX7_greatest_go F k' 0 l1I V = some (v, V1) → (∀ S1, mRel α S1 Ln V1 → mFr α S S1 → Φ v S1) → rX7_greatest_go F k' 0 (α 2) l1I S Φ) := by
  intro k'
  induction k' with
  | zero => exact (fun _ _ _ _ h _ => by cases h)
  | succ k' ih =>
    intro l1I S V R h k
    rw [mX7_greatest_go, if_pos rfl] at h
    rw [rX7_greatest_go, if_pos rfl]
    unfold mX7_greatest_b0 at h
    unfold rX7_greatest_b0
    refine mIf h Iff.rfl (fun c1 h => ?_) (fun c1 h => ?_)
    · obtain ⟨rfl, rfl⟩ := mRW h
      exact k _ R mFr.rf
    · obtain ⟨v2, V3, hv2, h⟩ := mBW_some h
      refine LX7_leadsOn hv2 R rfl rfl (by rw [show gNetworks_nodeCount S (α 2) = V.fI 2 8 from (mg_I (i := 2) R (by decide) rfl 8)]) rfl (fun S3 R3 F3 => ?_)
      refine mIf h Iff.rfl (fun c2 h => ?_) (fun c2 h => ?_)
      · obtain ⟨rfl, rfl⟩ := mRW h
        exact k _ R3 F3
      · refine mLet h rfl (fun x8 ex8 h => ?_)
        exact ih _ _ _ R3 h (fun S1 R1 F1 => k S1 R1 (F3.tr F1))
set_option maxHeartbeats 4000000 in
set_option maxRecDepth 100000 in
theorem LX7_greatest {α : Nat → Nat} {F : Nat} {S : wPS} {Ln : Nat → Nat} {V V1 : mV} {v : Int32} {Φ : (Int32 → wPS → Prop)} {l0Ax : Nat} (h : mX7_greatest F V = some (v, V1)) (R : mRel α S Ln V) (el0A : l0Ax = α 2) (k : (∀ S1, mRel α S1 Ln V1 → mFr α S S1 → Φ v S1)) : rX7_greatest F l0Ax S Φ := by
  have el0A := el0A.symm
  subst el0A
  have ih := LX7_greatest_go  (α := α) (F := F) (v := v) (Ln := Ln) (Φ := Φ) (V1 := V1) F
  unfold mX7_greatest mX7_greatest_s at h
  unfold rX7_greatest rX7_greatest_s
  obtain ⟨v9, V10, hv9, h⟩ := mBW_some h
  refine LJ7_fill_53178 hv9 R rfl (mg_A (t := 24) R rfl rfl) rfl (fun S10 R10 F10 => ?_)
  exact ih _ _ _ R10 h (fun S1 R1 F1 => k S1 R1 (F10.tr F1))
def mX8_findPoint_b0 (F : Nat) (rec : Nat → Nat → Int32 → mV → Option (Int32 × mV)) (l1A : Nat) (l2I : Int32) (V : mV) : Option (Int32 × mV) :=
  (if (4 : Int32) ≤ l2I then (rec 1 l1A ((0 : Int32)) V) else (if l2I < 0 ∨ 4 ≤ (l2I).toNatClampNeg then none else (mBW (mJ7_fill_d0a16 F (56 + (l2I).toNatClampNeg) ((0 : Int64)) V) fun v4 V5 => (if l2I < 0 ∨ 4 ≤ (l2I).toNatClampNeg then none else (if l2I < 0 ∨ 4 ≤ (l2I).toNatClampNeg then none else (mLt (mJ V5 (56 + (l2I).toNatClampNeg) (l2I) ((1 : Int64))) fun V12 => (mLt (l2I + (1 : Int32)) fun x13 => (rec 0 l1A (x13) V12))))))))
def mX8_findPoint_b1 (F : Nat) (rec : Nat → Nat → Int32 → mV → Option (Int32 × mV)) (l1A : Nat) (l2I : Int32) (V : mV) : Option (Int32 × mV) :=
  (if (V.fI l1A 6) ≤ l2I then some ((1 : Int32), V) else (mBW (mX8_fulfilItem F l1A (l2I) V) fun v15 V16 => (if v15 = 0 then some ((0 : Int32), V16) else (mLt (l2I + (1 : Int32)) fun x21 => (rec 1 l1A (x21) V16)))))
def mX8_findPoint_go (F : Nat) : Nat → Nat → Nat → Int32 → mV → Option (Int32 × mV)
  | 0, _, _, _, _ => none
  | k' + 1, lab, l1A, l2I, V => if lab = 0 then mX8_findPoint_b0 F (mX8_findPoint_go F k') l1A l2I V else if lab = 1 then mX8_findPoint_b1 F (mX8_findPoint_go F k') l1A l2I V else none
def mX8_findPoint_s (F : Nat) (rec : Nat → Nat → Int32 → mV → Option (Int32 × mV)) (l1A : Nat) (V : mV) : Option (Int32 × mV) :=
  (mLt (mF V 6 3 ((V.fI l1A 1))) fun V22 => (mBW (mJ7_fill_d0a16 F 54 ((0 : Int64)) V22) fun v23 V24 => (rec 0 l1A ((0 : Int32)) V24)))
def mX8_findPoint (F : Nat) (l1A : Nat) (V : mV) : Option (Int32 × mV) := mX8_findPoint_s F (mX8_findPoint_go F F) l1A V
set_option maxHeartbeats 4000000 in
set_option maxRecDepth 100000 in
theorem LX8_findPoint_go {α : Nat → Nat} {F : Nat} {Ln : Nat → Nat} {v : Int32} {V1 : mV} {Φ : (Int32 → wPS → Prop)} : ∀ k' : Nat, (∀ (l1A : Nat) (l2I : Int32) (S : wPS) (V : mV) , mRel α S Ln V → mK l1A = 3 → mX8_findPoint_go F k' 0 l1A l2I V = some (v, V1) → (∀ S1, mRel α S1 Ln V1 → mFr α S S1 → Φ v S1) → rX8_findPoint_go F k' 0 (α 6) (α l1A) l2I S Φ) ∧ (∀ (l1A : Nat) (l2I : Int32) (S : wPS) (V : mV) , mRel α S Ln V → mK l1A = 3 → mX8_findPoint_go F k' 1 l1A l2I V = some (v, V1) → (∀ S1, mRel α S1 Ln V1 → mFr α S S1 → Φ v S1) → rX8_findPoint_go F k' 1 (α 6) (α l1A) l2I S Φ) := by
  intro k'
  induction k' with
  | zero => exact ⟨(fun _ _ _ _ _ _ h _ => by cases h), (fun _ _ _ _ _ _ h _ => by cases h)⟩
  | succ k' ih =>
    refine ⟨?_, ?_⟩
    · intro l1A l2I S V R sl1A h k
      rw [mX8_findPoint_go, if_pos rfl] at h
      rw [rX8_findPoint_go, if_pos rfl]
      unfold mX8_findPoint_b0 at h
      unfold rX8_findPoint_b0
      refine mIf h Iff.rfl (fun c1 h => ?_) (fun c1 h => ?_)
      · exact ih.2 _ _ _ _ R sl1A h (fun S1 R1 F1 => k S1 R1 F1)
      · refine mGd h (by rw [show S.len (wkAd (gNumbers_basis S (α 6))) = 4 from (mg_len (i := 55) R (mAr (by decide)) (mg_A (t := 55) R rfl rfl))]) (fun c2 h => ?_)
        obtain ⟨v4, V5, hv4, h⟩ := mBW_some h
        refine LJ7_fill_d0a16 hv4 R (mKA55 (Nat.lt_of_not_le (fun z => c2 (Or.inr z)))) (mg_RA R (mRA55 (Nat.lt_of_not_le (fun z => c2 (Or.inr z)))) (mg_A (t := 55) R rfl rfl) rfl) rfl (fun S5 R5 F5 => ?_)
        refine mGd h (by rw [show S5.len (wkAd (gNumbers_basis S5 (α 6))) = 4 from (mg_len (i := 55) R5 (mAr (by decide)) (mg_A (t := 55) R5 rfl rfl))]) (fun c3 h => ?_)
        refine mGd h (by rw [show S5.len (wkAd (S5.rA (wkAd (gNumbers_basis S5 (α 6))) (l2I).toNatClampNeg)) = 4 from ((mg_len R5 (mA14 (mKA55 (Nat.lt_of_not_le (fun z => c3 (Or.inr z))))) (mg_RA R5 (mRA55 (Nat.lt_of_not_le (fun z => c3 (Or.inr z)))) (mg_A (t := 55) R5 rfl rfl) rfl)).trans (mLA55 (Nat.lt_of_not_le (fun z => c3 (Or.inr z)))))]) (fun c4 h => ?_)
        obtain ⟨V12, eV12, h⟩ := mLt_some h
        refine mU_J eV12 R5 (mA14 (mKA55 (Nat.lt_of_not_le (fun z => c4 (Or.inr z))))) (mg_RA R5 (mRA55 (Nat.lt_of_not_le (fun z => c4 (Or.inr z)))) (mg_A (t := 55) R5 rfl rfl) rfl) rfl rfl (fun S12 R12 F12 => ?_)
        refine mLet h rfl (fun x13 ex13 h => ?_)
        exact ih.1 _ _ _ _ R12 sl1A h (fun S1 R1 F1 => k S1 R1 (F5.tr (F12.tr F1)))
    · intro l1A l2I S V R sl1A h k
      rw [mX8_findPoint_go, if_neg (by decide), if_pos rfl] at h
      rw [rX8_findPoint_go, if_neg (by decide), if_pos rfl]
      unfold mX8_findPoint_b1 at h
      unfold rX8_findPoint_b1
      refine mIf h (by rw [show gEntry_itemCount S (α l1A) = V.fI l1A 6 from (mg_I (i := l1A) R (mO3 sl1A) rfl 6)]) (fun c5 h => ?_) (fun c5 h => ?_)
      · obtain ⟨rfl, rfl⟩ := mRW h
        exact k _ R mFr.rf
      · obtain ⟨v15, V16, hv15, h⟩ := mBW_some h
        refine LX8_fulfilItem hv15 R sl1A rfl rfl rfl (fun S16 R16 F16 => ?_)
        refine mIf h Iff.rfl (fun c6 h => ?_) (fun c6 h => ?_)
        · obtain ⟨rfl, rfl⟩ := mRW h
          exact k _ R16 F16
        · refine mLet h rfl (fun x21 ex21 h => ?_)
          exact ih.2 _ _ _ _ R16 sl1A h (fun S1 R1 F1 => k S1 R1 (F16.tr F1))
set_option maxHeartbeats 4000000 in
set_option maxRecDepth 100000 in
theorem LX8_findPoint {α : Nat → Nat} {F : Nat} {S : wPS} {Ln : Nat → Nat} {V V1 : mV} {v : Int32} {Φ : (Int32 → wPS → Prop)} {l0Ax : Nat} {l1Ax : Nat} {l1A : Nat} (h : mX8_findPoint F l1A V = some (v, V1)) (R : mRel α S Ln V) (sl1A : mK l1A = 3) (el0A : l0Ax = α 6) (el1A : l1Ax = α l1A) (k : (∀ S1, mRel α S1 Ln V1 → mFr α S S1 → Φ v S1)) : rX8_findPoint F l0Ax l1Ax S Φ := by
  have el0A := el0A.symm
  subst el0A
  have el1A := el1A.symm
  subst el1A
  have ih := LX8_findPoint_go  (α := α) (F := F) (v := v) (Ln := Ln) (Φ := Φ) (V1 := V1) F
  unfold mX8_findPoint mX8_findPoint_s at h
  unfold rX8_findPoint rX8_findPoint_s
  obtain ⟨V22, eV22, h⟩ := mLt_some h
  refine mU_F eV22 R (by decide) rfl (by rw [show gEntry_size S (α l1A) = V.fI l1A 1 from (mg_I (i := l1A) R (mO3 sl1A) rfl 1)]) (fun S22 R22 F22 => ?_)
  obtain ⟨v23, V24, hv23, h⟩ := mBW_some h
  refine LJ7_fill_d0a16 hv23 R22 rfl (mg_A (t := 54) R22 rfl rfl) rfl (fun S24 R24 F24 => ?_)
  exact ih.1 _ _ _ _ R24 sl1A h (fun S1 R1 F1 => k S1 R1 (F22.tr (F24.tr F1)))
end
