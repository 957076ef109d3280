/-! LIFTED BY PROGRAM (lift.py): X4_bringPairs, X4_bringNodes, X5_loadUnknowns, X5_loadWeights, X5_isFulfilled. -/
section
def mX4_bringPairs_b0 (F : Nat) (rec : Nat → (Nat → Nat) → Nat → Int32 → Nat → Nat → Int32 → mV → Option (Unit × (Nat → Nat) × mV)) (Ln : Nat → Nat) (l0A : Nat) (l1I : Int32) (l2A : Nat) (l3A : Nat) (l4I : Int32) (V : mV) : Option (Unit × (Nat → Nat) × mV) :=
  (if (V.fI l2A 1) ≤ l4I then (rec 1 Ln l0A (l1I) l2A l3A ((0 : Int32)) V) else (mBA (mX9_add F Ln l3A (l4I) V) fun v2 L3 V3 => (mLt (l4I + (1 : Int32)) fun x7 => (rec 0 L3 l0A (l1I) l2A l3A (x7) V3))))
def mX4_bringPairs_b1 (F : Nat) (rec : Nat → (Nat → Nat) → Nat → Int32 → Nat → Nat → Int32 → mV → Option (Unit × (Nat → Nat) × mV)) (Ln : Nat → Nat) (l0A : Nat) (l1I : Int32) (l2A : Nat) (l3A : Nat) (l4I : Int32) (V : mV) : Option (Unit × (Nat → Nat) × mV) :=
  (if (V.fI l2A 6) ≤ l4I then some ((), Ln, V) else (mBN (mX9_at F Ln l0A ((l1I + l4I)) V) fun v9 => (if v9 = (1 : Int32) then (mBN (mX3_at F l2A (l4I) ((0 : Int32)) V) fun v16 => (mBN (mX3_at F l2A (l4I) ((1 : Int32)) V) fun v21 => (mBW (mX9_set F Ln l3A (v16) (v21) V) fun v26 V27 => (mBN (mX3_at F l2A (l4I) ((1 : Int32)) V27) fun v31 => (mBN (mX3_at F l2A (l4I) ((0 : Int32)) V27) fun v36 => (mBW (mX9_set F Ln l3A (v31) (v36) V27) fun v41 V42 => (mLt (l4I + (1 : Int32)) fun x46 => (rec 1 Ln l0A (l1I) l2A l3A (x46) V42)))))))) else (mLt (l4I + (1 : Int32)) fun x15 => (rec 1 Ln l0A (l1I) l2A l3A (x15) V)))))
def mX4_bringPairs_go (F : Nat) : Nat → Nat → (Nat → Nat) → Nat → Int32 → Nat → Nat → Int32 → mV → Option (Unit × (Nat → Nat) × mV)
  | 0, _, _, _, _, _, _, _, _ => none
  | k' + 1, lab, Ln, l0A, l1I, l2A, l3A, l4I, V => if lab = 0 then mX4_bringPairs_b0 F (mX4_bringPairs_go F k') Ln l0A l1I l2A l3A l4I V else if lab = 1 then mX4_bringPairs_b1 F (mX4_bringPairs_go F k') Ln l0A l1I l2A l3A l4I V else none
def mX4_bringPairs_s (F : Nat) (rec : Nat → (Nat → Nat) → Nat → Int32 → Nat → Nat → Int32 → mV → Option (Unit × (Nat → Nat) × mV)) (Ln : Nat → Nat) (l0A : Nat) (l1I : Int32) (l2A : Nat) (l3A : Nat) (V : mV) : Option (Unit × (Nat → Nat) × mV) :=
  (rec 0 Ln l0A (l1I) l2A l3A ((0 : Int32)) V)
def mX4_bringPairs (F : Nat) (Ln : Nat → Nat) (l0A : Nat) (l1I : Int32) (l2A : Nat) (l3A : Nat) (V : mV) : Option (Unit × (Nat → Nat) × mV) := mX4_bringPairs_s F (mX4_bringPairs_go F F) Ln l0A l1I l2A l3A V
set_option maxHeartbeats 4000000 in
set_option maxRecDepth 100000 in
theorem MX4_bringPairs_go {F : Nat} {v : Unit} {Ln1 : Nat → Nat} {V1 : mV} : ∀ k' : Nat, (∀ (l0A : Nat) (l1I : Int32) (l2A : Nat) (l3A : Nat) (l4I : Int32) (Ln : Nat → Nat) (V : mV), mX4_bringPairs_go F k' 0 Ln l0A l1I l2A l3A l4I V = some (v, Ln1, V1) → mP Ln1 ≤ mP Ln) ∧ (∀ (l0A : Nat) (l1I : Int32) (l2A : Nat) (l3A : Nat) (l4I : Int32) (Ln : Nat → Nat) (V : mV), mX4_bringPairs_go F k' 1 Ln l0A l1I l2A l3A l4I V = some (v, Ln1, V1) → mP Ln1 ≤ mP Ln) := by
  intro k'
  induction k' with
  | zero => exact ⟨(fun _ _ _ _ _ _ _ h => by cases h), (fun _ _ _ _ _ _ _ h => by cases h)⟩
  | succ k' ihM =>
    refine ⟨?_, ?_⟩
    · intro l0A l1I l2A l3A l4I Ln V h
      rw [mX4_bringPairs_go, if_pos rfl] at h
      unfold mX4_bringPairs_b0 at h
      rcases mIf_some h with ⟨_, h⟩ | ⟨_, h⟩
      · exact ihM.2 _ _ _ _ _ _ _ h
      · obtain ⟨_, _, _, z1, h⟩ := mBA_some h
        refine Nat.le_trans ?_ (MX9_add z1)
        obtain ⟨_, _, h⟩ := mLt_some h
        exact ihM.1 _ _ _ _ _ _ _ h
    · intro l0A l1I l2A l3A l4I Ln V h
      rw [mX4_bringPairs_go, if_neg (by decide), if_pos rfl] at h
      unfold mX4_bringPairs_b1 at h
      rcases mIf_some h with ⟨_, h⟩ | ⟨_, h⟩
      · cases h
        exact Nat.le_refl _
      · obtain ⟨_, _, h⟩ := mBN_some h
        rcases mIf_some h with ⟨_, h⟩ | ⟨_, h⟩
        · obtain ⟨_, _, h⟩ := mBN_some h
          obtain ⟨_, _, h⟩ := mBN_some h
          obtain ⟨_, _, _, h⟩ := mBW_some h
          obtain ⟨_, _, h⟩ := mBN_some h
          obtain ⟨_, _, h⟩ := mBN_some h
          obtain ⟨_, _, _, h⟩ := mBW_some h
          obtain ⟨_, _, h⟩ := mLt_some h
          exact ihM.2 _ _ _ _ _ _ _ h
        · obtain ⟨_, _, h⟩ := mLt_some h
          exact ihM.2 _ _ _ _ _ _ _ h
set_option maxHeartbeats 4000000 in
set_option maxRecDepth 100000 in
theorem MX4_bringPairs {F : Nat} {Ln Ln1 : Nat → Nat} {V V1 : mV} {v : Unit} {l0A : Nat} {l1I : Int32} {l2A : Nat} {l3A : Nat} (h : mX4_bringPairs F Ln l0A l1I l2A l3A V = some (v, Ln1, V1)) : mP Ln1 ≤ mP Ln := by
  have ihM := MX4_bringPairs_go (F := F) (v := v) (Ln1 := Ln1) (V1 := V1) F
  unfold mX4_bringPairs mX4_bringPairs_s at h
  exact ihM.1 _ _ _ _ _ _ _ h
set_option maxHeartbeats 4000000 in
set_option maxRecDepth 100000 in
theorem LX4_bringPairs_go {α : Nat → Nat} {k0 n0 : Nat} {F : Nat} {v : Unit} {Ln1 : Nat → Nat} {V1 : mV} {Φ : (Unit → wPS → Prop)} : ∀ k' : Nat, (∀ (l0A : Nat) (l1I : Int32) (l2A : Nat) (l3A : Nat) (l4I : Int32) (S : wPS) (V : mV) (Ln : Nat → Nat) (c s : Nat), mRel α S Ln V → mK l0A = 9 → mK l2A = 3 → mK l3A = 9 → mX4_bringPairs_go F k' 0 Ln l0A l1I l2A l3A l4I V = some (v, Ln1, V1) → c + (mP Ln - mP Ln1) / 16 ≤ k0 → s + (mP Ln - mP Ln1) ≤ n0 → (∀ S1, mRel α S1 Ln1 V1 → mFr α S S1 → Φ v S1) → rX4_bringPairs_go F k0 n0 k' 0 c s (α l0A) l1I (α l2A) (α l3A) l4I S Φ) ∧ (∀ (l0A : Nat) (l1I : Int32) (l2A : Nat) (l3A : Nat) (l4I : Int32) (S : wPS) (V : mV) (Ln : Nat → Nat) (c s : Nat), mRel α S Ln V → mK l0A = 9 → mK l2A = 3 → mK l3A = 9 → mX4_bringPairs_go F k' 1 Ln l0A l1I l2A l3A l4I V = some (v, Ln1, V1) → c + (mP Ln - mP Ln1) / 16 ≤ k0 → s + (mP Ln - mP Ln1) ≤ n0 → (∀ S1, mRel α S1 Ln1 V1 → mFr α S S1 → Φ v S1) → rX4_bringPairs_go F k0 n0 k' 1 c s (α l0A) l1I (α l2A) (α l3A) l4I S Φ) := by
  intro k'
  induction k' with
  | zero => exact ⟨(fun _ _ _ _ _ _ _ _ _ _ _ _ _ _ h _ _ _ => by cases h), (fun _ _ _ _ _ _ _ _ _ _ _ _ _ _ h _ _ _ => by cases h)⟩
  | succ k' ih =>
    have ihM := MX4_bringPairs_go (F := F) (v := v) (Ln1 := Ln1) (V1 := V1) k'
    refine ⟨?_, ?_⟩
    · intro l0A l1I l2A l3A l4I S V Ln c s R sl0A sl2A sl3A h hk hn k
      rw [mX4_bringPairs_go, if_pos rfl] at h
      rw [rX4_bringPairs_go, if_pos rfl]
      unfold mX4_bringPairs_b0 at h
      unfold rX4_bringPairs_b0
      refine mIf h (by rw [show gEntry_size S (α l2A) = V.fI l2A 1 from (mg_I (i := l2A) R (mO3 sl2A) rfl 1)]) (fun c2 h => ?_) (fun c2 h => ?_)
      · exact ih.2 _ _ _ _ _ _ _ _ _ _ R sl0A sl2A sl3A h (by omega) (by omega) (fun S1 R1 F1 => k S1 R1 F1)
      · obtain ⟨v2, L3, V3, hv2, h⟩ := mBA_some h
        have mv2 : mP L3 ≤ mP Ln := MX9_add hv2
        have qv2 : mP Ln1 ≤ mP L3 := by
          obtain ⟨_, _, h⟩ := mLt_some h
          exact ihM.1 _ _ _ _ _ _ _ h
        refine ⟨(mP Ln - mP L3) / 16, mP Ln - mP L3, by omega, by omega, ?_⟩
        refine LX9_add hv2 R sl3A rfl rfl (by omega) (by omega) (fun S3 R3 F3 => ?_)
        refine mLet h rfl (fun x7 ex7 h => ?_)
        exact ih.1 _ _ _ _ _ _ _ _ _ _ R3 sl0A sl2A sl3A h (by omega) (by omega) (fun S1 R1 F1 => k S1 R1 (F3.tr F1))
    · intro l0A l1I l2A l3A l4I S V Ln c s R sl0A sl2A sl3A h hk hn k
      rw [mX4_bringPairs_go, if_neg (by decide), if_pos rfl] at h
      rw [rX4_bringPairs_go, if_neg (by decide), if_pos rfl]
      unfold mX4_bringPairs_b1 at h
      unfold rX4_bringPairs_b1
      refine mIf h (by rw [show gEntry_itemCount S (α l2A) = V.fI l2A 6 from (mg_I (i := l2A) R (mO3 sl2A) rfl 6)]) (fun c3 h => ?_) (fun c3 h => ?_)
      · obtain ⟨rfl, rfl, rfl⟩ := mRA3 h
        exact k _ R mFr.rf
      · obtain ⟨v9, hv9, h⟩ := mBN_some h
        refine LX9_at hv9 R sl0A rfl rfl ?_
        refine mIf h Iff.rfl (fun c4 h => ?_) (fun c4 h => ?_)
        · obtain ⟨v16, hv16, h⟩ := mBN_some h
          refine LX3_at hv16 R sl2A rfl rfl rfl ?_
          obtain ⟨v21, hv21, h⟩ := mBN_some h
          refine LX3_at hv21 R sl2A rfl rfl rfl ?_
          obtain ⟨v26, V27, hv26, h⟩ := mBW_some h
          refine LX9_set hv26 R sl3A rfl rfl rfl (fun S27 R27 F27 => ?_)
          obtain ⟨v31, hv31, h⟩ := mBN_some h
          refine LX3_at hv31 R27 sl2A rfl rfl rfl ?_
          obtain ⟨v36, hv36, h⟩ := mBN_some h
          refine LX3_at hv36 R27 sl2A rfl rfl rfl ?_
          obtain ⟨v41, V42, hv41, h⟩ := mBW_some h
          refine LX9_set hv41 R27 sl3A rfl rfl rfl (fun S42 R42 F42 => ?_)
          refine mLet h rfl (fun x46 ex46 h => ?_)
          exact ih.2 _ _ _ _ _ _ _ _ _ _ R42 sl0A sl2A sl3A h (by omega) (by omega) (fun S1 R1 F1 => k S1 R1 (F27.tr (F42.tr F1)))
        · refine mLet h rfl (fun x15 ex15 h => ?_)
          exact ih.2 _ _ _ _ _ _ _ _ _ _ R sl0A sl2A sl3A h (by omega) (by omega) (fun S1 R1 F1 => k S1 R1 F1)
set_option maxHeartbeats 4000000 in
set_option maxRecDepth 100000 in
theorem LX4_bringPairs {α : Nat → Nat} {F : Nat} {S : wPS} {Ln Ln1 : Nat → Nat} {V V1 : mV} {v : Unit} {Φ : (Unit → wPS → Prop)} {l0Ax : Nat} {l0A : Nat} {l1Ix l1I : Int32} {l2Ax : Nat} {l2A : Nat} {l3Ax : Nat} {l3A : Nat} {k0 n0 : Nat} (h : mX4_bringPairs F Ln l0A l1I l2A l3A V = some (v, Ln1, V1)) (R : mRel α S Ln V) (sl0A : mK l0A = 9) (sl2A : mK l2A = 3) (sl3A : mK l3A = 9) (el0A : l0Ax = α l0A) (el1I : l1Ix = l1I) (el2A : l2Ax = α l2A) (el3A : l3Ax = α l3A) (hk : (mP Ln - mP Ln1) / 16 ≤ k0) (hn : mP Ln - mP Ln1 ≤ n0) (k : (∀ S1, mRel α S1 Ln1 V1 → mFr α S S1 → Φ v S1)) : rX4_bringPairs F k0 n0 l0Ax l1Ix l2Ax l3Ax S Φ := by
  have el0A := el0A.symm
  subst el0A
  have el1I := el1I.symm
  subst el1I
  have el2A := el2A.symm
  subst el2A
  have el3A := el3A.symm
  subst el3A
  have ih := LX4_bringPairs_go  (α := α) (F := F) (v := v) (k0 := k0) (n0 := n0) (Ln1 := Ln1) (Φ := Φ) (V1 := V1) F
  have ihM := MX4_bringPairs_go (F := F) (v := v) (Ln1 := Ln1) (V1 := V1) F
  unfold mX4_bringPairs mX4_bringPairs_s at h
  unfold rX4_bringPairs rX4_bringPairs_s
  exact ih.1 _ _ _ _ _ _ _ _ _ _ R sl0A sl2A sl3A h (by omega) (by omega) (fun S1 R1 F1 => k S1 R1 F1)
def mX4_bringNodes_b0 (F : Nat) (rec : Nat → (Nat → Nat) → Nat → Nat → Nat → Int32 → Int32 → mV → Option (Unit × (Nat → Nat) × mV)) (Ln : Nat → Nat) (l1A : Nat) (l2A : Nat) (l3A : Nat) (l4I : Int32) (l5I : Int32) (V : mV) : Option (Unit × (Nat → Nat) × mV) :=
  (if (V.fI l2A 1) ≤ l5I then some ((), Ln, V) else (mBN (mX9_holds F Ln l1A ((0 : Int32)) ((l5I + (1 : Int32))) V) fun v2 => (mBN (mX11_has F (l4I) (l5I)) fun v7 => (if v7 = v2 then (mLt (l5I + (1 : Int32)) fun x13 => (rec 0 Ln l1A l2A l3A (l4I) (x13) V)) else (mBA (mX9_add F Ln l3A (l5I) V) fun v14 L15 V15 => (mLt (l5I + (1 : Int32)) fun x19 => (rec 0 L15 l1A l2A l3A (l4I) (x19) V15)))))))
def mX4_bringNodes_go (F : Nat) : Nat → Nat → (Nat → Nat) → Nat → Nat → Nat → Int32 → Int32 → mV → Option (Unit × (Nat → Nat) × mV)
  | 0, _, _, _, _, _, _, _, _ => none
  | k' + 1, lab, Ln, l1A, l2A, l3A, l4I, l5I, V => if lab = 0 then mX4_bringNodes_b0 F (mX4_bringNodes_go F k') Ln l1A l2A l3A l4I l5I V else none
def mX4_bringNodes_s (F : Nat) (rec : Nat → (Nat → Nat) → Nat → Nat → Nat → Int32 → Int32 → mV → Option (Unit × (Nat → Nat) × mV)) (Ln : Nat → Nat) (l1A : Nat) (l2A : Nat) (l3A : Nat) (V : mV) : Option (Unit × (Nat → Nat) × mV) :=
  (mBW (mX4_leftSide F l2A V) fun v20 V21 => (rec 0 Ln l1A l2A l3A (v20) ((0 : Int32)) V21))
def mX4_bringNodes (F : Nat) (Ln : Nat → Nat) (l1A : Nat) (l2A : Nat) (l3A : Nat) (V : mV) : Option (Unit × (Nat → Nat) × mV) := mX4_bringNodes_s F (mX4_bringNodes_go F F) Ln l1A l2A l3A V
set_option maxHeartbeats 4000000 in
set_option maxRecDepth 100000 in
theorem MX4_bringNodes_go {F : Nat} {v : Unit} {Ln1 : Nat → Nat} {V1 : mV} : ∀ k' : Nat, (∀ (l1A : Nat) (l2A : Nat) (l3A : Nat) (l4I : Int32) (l5I : Int32) (Ln : Nat → Nat) (V : mV), mX4_bringNodes_go F k' 0 Ln l1A l2A l3A l4I l5I V = some (v, Ln1, V1) → mP Ln1 ≤ mP Ln) := by
  intro k'
  induction k' with
  | zero => exact (fun _ _ _ _ _ _ _ h => by cases h)
  | succ k' ihM =>
    skip
    intro l1A l2A l3A l4I l5I Ln V h
    rw [mX4_bringNodes_go, if_pos rfl] at h
    unfold mX4_bringNodes_b0 at h
    rcases mIf_some h with ⟨_, h⟩ | ⟨_, h⟩
    · cases h
      exact Nat.le_refl _
    · obtain ⟨_, _, h⟩ := mBN_some h
      obtain ⟨_, _, h⟩ := mBN_some h
      rcases mIf_some h with ⟨_, h⟩ | ⟨_, h⟩
      · obtain ⟨_, _, h⟩ := mLt_some h
        exact ihM _ _ _ _ _ _ _ h
      · obtain ⟨_, _, _, z1, h⟩ := mBA_some h
        refine Nat.le_trans ?_ (MX9_add z1)
        obtain ⟨_, _, h⟩ := mLt_some h
        exact ihM _ _ _ _ _ _ _ h
set_option maxHeartbeats 4000000 in
set_option maxRecDepth 100000 in
theorem MX4_bringNodes {F : Nat} {Ln Ln1 : Nat → Nat} {V V1 : mV} {v : Unit} {l1A : Nat} {l2A : Nat} {l3A : Nat} (h : mX4_bringNodes F Ln l1A l2A l3A V = some (v, Ln1, V1)) : mP Ln1 ≤ mP Ln := by
  have ihM := MX4_bringNodes_go (F := F) (v := v) (Ln1 := Ln1) (V1 := V1) F
  unfold mX4_bringNodes mX4_bringNodes_s at h
  obtain ⟨_, _, _, h⟩ := mBW_some h
  exact ihM _ _ _ _ _ _ _ h
set_option maxHeartbeats 4000000 in
set_option maxRecDepth 100000 in
theorem LX4_bringNodes_go {α : Nat → Nat} {k0 n0 : Nat} {F : Nat} {v : Unit} {Ln1 : Nat → Nat} {V1 : mV} {Φ : (Unit → wPS → Prop)} : ∀ k' : Nat, (∀ (l1A : Nat) (l2A : Nat) (l3A : Nat) (l4I : Int32) (l5I : Int32) (S : wPS) (V : mV) (Ln : Nat → Nat) (c s : Nat), mRel α S Ln V → mK l1A = 9 → mK l2A = 3 → mK l3A = 9 → mX4_bringNodes_go F k' 0 Ln l1A l2A l3A l4I l5I V = some (v, Ln1, V1) → c + (mP Ln - mP Ln1) / 16 ≤ k0 → s + (mP Ln - mP Ln1) ≤ n0 → (∀ S1, mRel α S1 Ln1 V1 → mFr α S S1 → Φ v S1) → rX4_bringNodes_go F k0 n0 k' 0 c s (α l1A) (α l2A) (α l3A) l4I l5I S Φ) := by
  intro k'
  induction k' with
  | zero => exact (fun _ _ _ _ _ _ _ _ _ _ _ _ _ _ h _ _ _ => by cases h)
  | succ k' ih =>
    have ihM := MX4_bringNodes_go (F := F) (v := v) (Ln1 := Ln1) (V1 := V1) k'
    intro l1A l2A l3A l4I l5I S V Ln c s R sl1A sl2A sl3A h hk hn k
    rw [mX4_bringNodes_go, if_pos rfl] at h
    rw [rX4_bringNodes_go, if_pos rfl]
    unfold mX4_bringNodes_b0 at h
    unfold rX4_bringNodes_b0
    refine mIf h (by rw [show gEntry_size S (α l2A) = V.fI l2A 1 from (mg_I (i := l2A) R (mO3 sl2A) rfl 1)]) (fun c2 h => ?_) (fun c2 h => ?_)
    · obtain ⟨rfl, rfl, rfl⟩ := mRA3 h
      exact k _ R mFr.rf
    · obtain ⟨v2, hv2, h⟩ := mBN_some h
      refine LX9_holds hv2 R sl1A rfl rfl rfl ?_
      obtain ⟨v7, hv7, h⟩ := mBN_some h
      refine LX11_has hv7 rfl rfl ?_
      refine mIf h Iff.rfl (fun c3 h => ?_) (fun c3 h => ?_)
      · refine mLet h rfl (fun x13 ex13 h => ?_)
        exact ih _ _ _ _ _ _ _ _ _ _ R sl1A sl2A sl3A h (by omega) (by omega) (fun S1 R1 F1 => k S1 R1 F1)
      · obtain ⟨v14, L15, V15, hv14, h⟩ := mBA_some h
        have mv14 : mP L15 ≤ mP Ln := MX9_add hv14
        have qv14 : mP Ln1 ≤ mP L15 := by
          obtain ⟨_, _, h⟩ := mLt_some h
          exact ihM _ _ _ _ _ _ _ h
        refine ⟨(mP Ln - mP L15) / 16, mP Ln - mP L15, by omega, by omega, ?_⟩
        refine LX9_add hv14 R sl3A rfl rfl (by omega) (by omega) (fun S15 R15 F15 => ?_)
        refine mLet h rfl (fun x19 ex19 h => ?_)
        exact ih _ _ _ _ _ _ _ _ _ _ R15 sl1A sl2A sl3A h (by omega) (by omega) (fun S1 R1 F1 => k S1 R1 (F15.tr F1))
set_option maxHeartbeats 4000000 in
set_option maxRecDepth 100000 in
theorem LX4_bringNodes {α : Nat → Nat} {F : Nat} {S : wPS} {Ln Ln1 : Nat → Nat} {V V1 : mV} {v : Unit} {Φ : (Unit → wPS → Prop)} {l0Ax : Nat} {l1Ax : Nat} {l1A : Nat} {l2Ax : Nat} {l2A : Nat} {l3Ax : Nat} {l3A : Nat} {k0 n0 : Nat} (h : mX4_bringNodes F Ln l1A l2A l3A V = some (v, Ln1, V1)) (R : mRel α S Ln V) (sl1A : mK l1A = 9) (sl2A : mK l2A = 3) (sl3A : mK l3A = 9) (el0A : l0Ax = α 1) (el1A : l1Ax = α l1A) (el2A : l2Ax = α l2A) (el3A : l3Ax = α l3A) (hk : (mP Ln - mP Ln1) / 16 ≤ k0) (hn : mP Ln - mP Ln1 ≤ n0) (k : (∀ S1, mRel α S1 Ln1 V1 → mFr α S S1 → Φ v S1)) : rX4_bringNodes F k0 n0 l0Ax l1Ax l2Ax l3Ax S Φ := by
  have el0A := el0A.symm
  subst el0A
  have el1A := el1A.symm
  subst el1A
  have el2A := el2A.symm
  subst el2A
  have el3A := el3A.symm
  subst el3A
  have ih := LX4_bringNodes_go  (α := α) (F := F) (v := v) (k0 := k0) (n0 := n0) (Ln1 := Ln1) (Φ := Φ) (V1 := V1) F
  have ihM := MX4_bringNodes_go (F := F) (v := v) (Ln1 := Ln1) (V1 := V1) F
  unfold mX4_bringNodes mX4_bringNodes_s at h
  unfold rX4_bringNodes rX4_bringNodes_s
  obtain ⟨v20, V21, hv20, h⟩ := mBW_some h
  refine LX4_leftSide hv20 R sl2A rfl rfl (fun S21 R21 F21 => ?_)
  exact ih _ _ _ _ _ _ _ _ _ _ R21 sl1A sl2A sl3A h (by omega) (by omega) (fun S1 R1 F1 => k S1 R1 (F21.tr F1))
def mX5_loadUnknowns_b0 (F : Nat) (rec : Nat → Nat → Int32 → Int32 → Int32 → mV → Option (Unit × mV)) (l1A : Nat) (l2I : Int32) (V : mV) : Option (Unit × mV) :=
  (if (V.fI 4 4) ≤ l2I then (mBW (mX5_begin F V) fun v2 V3 => some ((), V3)) else (mBN (mX5_limitOf F l1A (l2I) V) fun v7 => (if 0 ≤ v7 then (rec 1 l1A (l2I) ((1 : Int32)) ((0 : Int32)) V) else (rec 1 l1A (l2I) ((-1 : Int32)) ((0 : Int32)) V))))
def mX5_loadUnknowns_b1 (F : Nat) (rec : Nat → Nat → Int32 → Int32 → Int32 → mV → Option (Unit × mV)) (l1A : Nat) (l2I : Int32) (l3I : Int32) (l4I : Int32) (V : mV) : Option (Unit × mV) :=
  (if (V.fI l1A 1) ≤ l4I then (if l2I < 0 ∨ 14 ≤ (l2I).toNatClampNeg then none else (if ((V.fI l1A 1) + l2I) < 0 ∨ 18 ≤ (((V.fI l1A 1) + l2I)).toNatClampNeg then none else (mLt (mJ V (36 + (l2I).toNatClampNeg) (((V.fI l1A 1) + l2I)) ((Int32.toInt64 l3I))) fun V17 => (if l2I < 0 ∨ 14 ≤ (l2I).toNatClampNeg then none else (mBN (mX5_limitOf F l1A (l2I) V17) fun v20 => (if (V17.fI 4 5) < 0 ∨ 18 ≤ ((V17.fI 4 5)).toNatClampNeg then none else (mLt (mJ V17 (36 + (l2I).toNatClampNeg) ((V17.fI 4 5)) ((Int32.toInt64 (l3I * v20)))) fun V26 => (mLt (l2I + (1 : Int32)) fun x27 => (rec 0 l1A (x27) 0 0 V26))))))))) else (if l2I < 0 ∨ 14 ≤ (l2I).toNatClampNeg then none else (mBN (mX5_times F l1A (l2I) (l4I) V) fun v30 => (if l4I < 0 ∨ 18 ≤ (l4I).toNatClampNeg then none else (mLt (mJ V (36 + (l2I).toNatClampNeg) (l4I) ((Int32.toInt64 (l3I * v30)))) fun V36 => (mLt (l4I + (1 : Int32)) fun x37 => (rec 1 l1A (l2I) (l3I) (x37) V36)))))))
def mX5_loadUnknowns_go (F : Nat) : Nat → Nat → Nat → Int32 → Int32 → Int32 → mV → Option (Unit × mV)
  | 0, _, _, _, _, _, _ => none
  | k' + 1, lab, l1A, l2I, l3I, l4I, V => if lab = 0 then mX5_loadUnknowns_b0 F (mX5_loadUnknowns_go F k') l1A l2I V else if lab = 1 then mX5_loadUnknowns_b1 F (mX5_loadUnknowns_go F k') l1A l2I l3I l4I V else none
def mX5_loadUnknowns_s (F : Nat) (rec : Nat → Nat → Int32 → Int32 → Int32 → mV → Option (Unit × mV)) (l1A : Nat) (V : mV) : Option (Unit × mV) :=
  (mLt (mF V 4 4 (((V.fI l1A 6) + (1 : Int32)))) fun V38 => (mLt (mF V38 4 5 (((V38.fI l1A 1) + (V38.fI 4 4)))) fun V39 => (mBW (mX5_clearTable F V39) fun v40 V41 => (rec 0 l1A ((0 : Int32)) 0 0 V41))))
def mX5_loadUnknowns (F : Nat) (l1A : Nat) (V : mV) : Option (Unit × mV) := mX5_loadUnknowns_s F (mX5_loadUnknowns_go F F) l1A V
set_option maxHeartbeats 4000000 in
set_option maxRecDepth 100000 in
theorem LX5_loadUnknowns_go {α : Nat → Nat} {F : Nat} {Ln : Nat → Nat} {v : Unit} {V1 : mV} {Φ : (Unit → wPS → Prop)} : ∀ k' : Nat, (∀ (l1A : Nat) (l2I : Int32) (S : wPS) (V : mV) , mRel α S Ln V → mK l1A = 3 → mX5_loadUnknowns_go F k' 0 l1A l2I 0 0 V = some (v, V1) → (∀ S1, mRel α S1 Ln V1 → mFr α S S1 → Φ v S1) → rX5_loadUnknowns_go F k' 0 (α 4) (α l1A) l2I 0 0 S Φ) ∧ (∀ (l1A : Nat) (l2I : Int32) (l3I : Int32) (l4I : Int32) (S : wPS) (V : mV) , mRel α S Ln V → mK l1A = 3 → mX5_loadUnknowns_go F k' 1 l1A l2I l3I l4I V = some (v, V1) → (∀ S1, mRel α S1 Ln V1 → mFr α S S1 → Φ v S1) → rX5_loadUnknowns_go F k' 1 (α 4) (α l1A) l2I l3I l4I S Φ) := by
  intro k'
  induction k' with
  | zero => exact ⟨(fun _ _ _ _ _ _ h _ => by cases h), (fun _ _ _ _ _ _ _ _ h _ => by cases h)⟩
  | succ k' ih =>
    refine ⟨?_, ?_⟩
    · intro l1A l2I S V R sl1A h k
      rw [mX5_loadUnknowns_go, if_pos rfl] at h
      rw [rX5_loadUnknowns_go, if_pos rfl]
      unfold mX5_loadUnknowns_b0 at h
      unfold rX5_loadUnknowns_b0
      refine mIf h (by rw [show gInequalities_rows S (α 4) = V.fI 4 4 from (mg_I (i := 4) R (by decide) rfl 4)]) (fun c1 h => ?_) (fun c1 h => ?_)
      · obtain ⟨v2, V3, hv2, h⟩ := mBW_some h
        refine LX5_begin hv2 R rfl (fun S3 R3 F3 => ?_)
        obtain ⟨rfl, rfl⟩ := mRW h
        exact k _ R3 F3
      · obtain ⟨v7, hv7, h⟩ := mBN_some h
        refine LX5_limitOf hv7 R sl1A rfl rfl ?_
        refine mIf h Iff.rfl (fun c2 h => ?_) (fun c2 h => ?_)
        · exact ih.2 _ _ _ _ _ _ R sl1A h (fun S1 R1 F1 => k S1 R1 F1)
        · exact ih.2 _ _ _ _ _ _ R sl1A h (fun S1 R1 F1 => k S1 R1 F1)
    · intro l1A l2I l3I l4I S V R sl1A h k
      rw [mX5_loadUnknowns_go, if_neg (by decide), if_pos rfl] at h
      rw [rX5_loadUnknowns_go, if_neg (by decide), if_pos rfl]
      unfold mX5_loadUnknowns_b1 at h
      unfold rX5_loadUnknowns_b1
      refine mIf h (by rw [show gEntry_size S (α l1A) = V.fI l1A 1 from (mg_I (i := l1A) R (mO3 sl1A) rfl 1)]) (fun c3 h => ?_) (fun c3 h => ?_)
      · refine mGd h (by rw [show S.len (wkAd (gInequalities_table S (α 4))) = 14 from (mg_len (i := 35) R (mAr (by decide)) (mg_A (t := 35) R rfl rfl))]) (fun c4 h => ?_)
        refine mGd h (by rw [show S.len (wkAd (S.rA (wkAd (gInequalities_table S (α 4))) (l2I).toNatClampNeg)) = 18 from ((mg_len R (mA14 (mKA35 (Nat.lt_of_not_le (fun z => c4 (Or.inr z))))) (mg_RA R (mRA35 (Nat.lt_of_not_le (fun z => c4 (Or.inr z)))) (mg_A (t := 35) R rfl rfl) rfl)).trans (mLA35 (Nat.lt_of_not_le (fun z => c4 (Or.inr z))))), show gEntry_size S (α l1A) = V.fI l1A 1 from (mg_I (i := l1A) R (mO3 sl1A) rfl 1)]) (fun c5 h => ?_)
        obtain ⟨V17, eV17, h⟩ := mLt_some h
        refine mU_J eV17 R (mA14 (mKA35 (Nat.lt_of_not_le (fun z => c4 (Or.inr z))))) (mg_RA R (mRA35 (Nat.lt_of_not_le (fun z => c4 (Or.inr z)))) (mg_A (t := 35) R rfl rfl) rfl) (by rw [show gEntry_size S (α l1A) = V.fI l1A 1 from (mg_I (i := l1A) R (mO3 sl1A) rfl 1)]) rfl (fun S17 R17 F17 => ?_)
        refine mGd h (by rw [show S17.len (wkAd (gInequalities_table S17 (α 4))) = 14 from (mg_len (i := 35) R17 (mAr (by decide)) (mg_A (t := 35) R17 rfl rfl))]) (fun c6 h => ?_)
        obtain ⟨v20, hv20, h⟩ := mBN_some h
        refine LX5_limitOf hv20 R17 sl1A rfl rfl ?_
        refine mGd h (by rw [show S17.len (wkAd (S17.rA (wkAd (gInequalities_table S17 (α 4))) (l2I).toNatClampNeg)) = 18 from ((mg_len R17 (mA14 (mKA35 (Nat.lt_of_not_le (fun z => c6 (Or.inr z))))) (mg_RA R17 (mRA35 (Nat.lt_of_not_le (fun z => c6 (Or.inr z)))) (mg_A (t := 35) R17 rfl rfl) rfl)).trans (mLA35 (Nat.lt_of_not_le (fun z => c6 (Or.inr z))))), show gInequalities_columns S17 (α 4) = V17.fI 4 5 from (mg_I (i := 4) R17 (by decide) rfl 5)]) (fun c7 h => ?_)
        obtain ⟨V26, eV26, h⟩ := mLt_some h
        refine mU_J eV26 R17 (mA14 (mKA35 (Nat.lt_of_not_le (fun z => c6 (Or.inr z))))) (mg_RA R17 (mRA35 (Nat.lt_of_not_le (fun z => c6 (Or.inr z)))) (mg_A (t := 35) R17 rfl rfl) rfl) (by rw [show gInequalities_columns S17 (α 4) = V17.fI 4 5 from (mg_I (i := 4) R17 (by decide) rfl 5)]) rfl (fun S26 R26 F26 => ?_)
        refine mLet h rfl (fun x27 ex27 h => ?_)
        exact ih.1 _ _ _ _ R26 sl1A h (fun S1 R1 F1 => k S1 R1 (F17.tr (F26.tr F1)))
      · refine mGd h (by rw [show S.len (wkAd (gInequalities_table S (α 4))) = 14 from (mg_len (i := 35) R (mAr (by decide)) (mg_A (t := 35) R rfl rfl))]) (fun c8 h => ?_)
        obtain ⟨v30, hv30, h⟩ := mBN_some h
        refine LX5_times hv30 R sl1A rfl rfl rfl ?_
        refine mGd h (by rw [show S.len (wkAd (S.rA (wkAd (gInequalities_table S (α 4))) (l2I).toNatClampNeg)) = 18 from ((mg_len R (mA14 (mKA35 (Nat.lt_of_not_le (fun z => c8 (Or.inr z))))) (mg_RA R (mRA35 (Nat.lt_of_not_le (fun z => c8 (Or.inr z)))) (mg_A (t := 35) R rfl rfl) rfl)).trans (mLA35 (Nat.lt_of_not_le (fun z => c8 (Or.inr z)))))]) (fun c9 h => ?_)
        obtain ⟨V36, eV36, h⟩ := mLt_some h
        refine mU_J eV36 R (mA14 (mKA35 (Nat.lt_of_not_le (fun z => c8 (Or.inr z))))) (mg_RA R (mRA35 (Nat.lt_of_not_le (fun z => c8 (Or.inr z)))) (mg_A (t := 35) R rfl rfl) rfl) rfl rfl (fun S36 R36 F36 => ?_)
        refine mLet h rfl (fun x37 ex37 h => ?_)
        exact ih.2 _ _ _ _ _ _ R36 sl1A h (fun S1 R1 F1 => k S1 R1 (F36.tr F1))
set_option maxHeartbeats 4000000 in
set_option maxRecDepth 100000 in
theorem LX5_loadUnknowns {α : Nat → Nat} {F : Nat} {S : wPS} {Ln : Nat → Nat} {V V1 : mV} {v : Unit} {Φ : (Unit → wPS → Prop)} {l0Ax : Nat} {l1Ax : Nat} {l1A : Nat} (h : mX5_loadUnknowns F l1A V = some (v, V1)) (R : mRel α S Ln V) (sl1A : mK l1A = 3) (el0A : l0Ax = α 4) (el1A : l1Ax = α l1A) (k : (∀ S1, mRel α S1 Ln V1 → mFr α S S1 → Φ v S1)) : rX5_loadUnknowns F l0Ax l1Ax S Φ := by
  have el0A := el0A.symm
  subst el0A
  have el1A := el1A.symm
  subst el1A
  have ih := LX5_loadUnknowns_go  (α := α) (F := F) (v := v) (Ln := Ln) (Φ := Φ) (V1 := V1) F
  unfold mX5_loadUnknowns mX5_loadUnknowns_s at h
  unfold rX5_loadUnknowns rX5_loadUnknowns_s
  obtain ⟨V38, eV38, h⟩ := mLt_some h
  refine mU_F eV38 R (by decide) rfl (by rw [show gEntry_itemCount S (α l1A) = V.fI l1A 6 from (mg_I (i := l1A) R (mO3 sl1A) rfl 6)]) (fun S38 R38 F38 => ?_)
  obtain ⟨V39, eV39, h⟩ := mLt_some h
  refine mU_F eV39 R38 (by decide) rfl (by rw [show gInequalities_rows S38 (α 4) = V38.fI 4 4 from (mg_I (i := 4) R38 (by decide) rfl 4), show gEntry_size S38 (α l1A) = V38.fI l1A 1 from (mg_I (i := l1A) R38 (mO3 sl1A) rfl 1)]) (fun S39 R39 F39 => ?_)
  obtain ⟨v40, V41, hv40, h⟩ := mBW_some h
  refine LX5_clearTable hv40 R39 rfl (fun S41 R41 F41 => ?_)
  exact ih.1 _ _ _ _ R41 sl1A h (fun S1 R1 F1 => k S1 R1 (F38.tr (F39.tr (F41.tr F1))))
def mX5_loadWeights_b0 (F : Nat) (rec : Nat → Nat → Int32 → Int32 → Int32 → mV → Option (Unit × mV)) (l1A : Nat) (l2I : Int32) (l3I : Int32) (V : mV) : Option (Unit × mV) :=
  (if l2I ≤ l3I then (rec 2 l1A (l2I) ((0 : Int32)) 0 V) else (rec 1 l1A (l2I) (l3I) ((0 : Int32)) V))
def mX5_loadWeights_b1 (F : Nat) (rec : Nat → Nat → Int32 → Int32 → Int32 → mV → Option (Unit × mV)) (l1A : Nat) (l2I : Int32) (l3I : Int32) (l4I : Int32) (V : mV) : Option (Unit × mV) :=
  (if (V.fI l1A 1) ≤ l4I then (if (V.fI l1A 1) < 0 ∨ 14 ≤ ((V.fI l1A 1)).toNatClampNeg then none else (mBN (mX5_limitOf F l1A (l3I) V) fun v5 => (if l3I < 0 ∨ 18 ≤ (l3I).toNatClampNeg then none else (mLt (mJ V (36 + ((V.fI l1A 1)).toNatClampNeg) (l3I) ((Int32.toInt64 (-v5)))) fun V11 => (mLt (l3I + (1 : Int32)) fun x12 => (rec 0 l1A (l2I) (x12) 0 V11)))))) else (if l4I < 0 ∨ 14 ≤ (l4I).toNatClampNeg then none else (mBN (mX5_times F l1A (l3I) (l4I) V) fun v15 => (if l3I < 0 ∨ 18 ≤ (l3I).toNatClampNeg then none else (mLt (mJ V (36 + (l4I).toNatClampNeg) (l3I) ((Int32.toInt64 v15))) fun V21 => (mLt (l4I + (1 : Int32)) fun x22 => (rec 1 l1A (l2I) (l3I) (x22) V21)))))))
def mX5_loadWeights_b2 (F : Nat) (rec : Nat → Nat → Int32 → Int32 → Int32 → mV → Option (Unit × mV)) (l1A : Nat) (l2I : Int32) (l3I : Int32) (V : mV) : Option (Unit × mV) :=
  (if (V.fI l1A 1) ≤ l3I then (if (V.fI l1A 1) < 0 ∨ 14 ≤ ((V.fI l1A 1)).toNatClampNeg then none else (if (V.fI 4 5) < 0 ∨ 18 ≤ ((V.fI 4 5)).toNatClampNeg then none else (mLt (mJ V (36 + ((V.fI l1A 1)).toNatClampNeg) ((V.fI 4 5)) ((1 : Int64))) fun V27 => (mBW (mX5_begin F V27) fun v28 V29 => some ((), V29))))) else (if l3I < 0 ∨ 14 ≤ (l3I).toNatClampNeg then none else (if (l2I + l3I) < 0 ∨ 18 ≤ ((l2I + l3I)).toNatClampNeg then none else (mLt (mJ V (36 + (l3I).toNatClampNeg) ((l2I + l3I)) ((-1 : Int64))) fun V36 => (mLt (l3I + (1 : Int32)) fun x37 => (rec 2 l1A (l2I) (x37) 0 V36))))))
def mX5_loadWeights_go (F : Nat) : Nat → Nat → Nat → Int32 → Int32 → Int32 → mV → Option (Unit × mV)
  | 0, _, _, _, _, _, _ => none
  | k' + 1, lab, l1A, l2I, l3I, l4I, V => if lab = 0 then mX5_loadWeights_b0 F (mX5_loadWeights_go F k') l1A l2I l3I V else if lab = 1 then mX5_loadWeights_b1 F (mX5_loadWeights_go F k') l1A l2I l3I l4I V else if lab = 2 then mX5_loadWeights_b2 F (mX5_loadWeights_go F k') l1A l2I l3I V else none
def mX5_loadWeights_s (F : Nat) (rec : Nat → Nat → Int32 → Int32 → Int32 → mV → Option (Unit × mV)) (l1A : Nat) (V : mV) : Option (Unit × mV) :=
  (mLt ((V.fI l1A 6) + (1 : Int32)) fun x38 => (mLt (mF V 4 4 (((V.fI l1A 1) + (1 : Int32)))) fun V39 => (mLt (mF V39 4 5 ((x38 + (V39.fI l1A 1)))) fun V40 => (mBW (mX5_clearTable F V40) fun v41 V42 => (rec 0 l1A (x38) ((0 : Int32)) 0 V42)))))
def mX5_loadWeights (F : Nat) (l1A : Nat) (V : mV) : Option (Unit × mV) := mX5_loadWeights_s F (mX5_loadWeights_go F F) l1A V
set_option maxHeartbeats 4000000 in
set_option maxRecDepth 100000 in
theorem LX5_loadWeights_go {α : Nat → Nat} {F : Nat} {Ln : Nat → Nat} {v : Unit} {V1 : mV} {Φ : (Unit → wPS → Prop)} : ∀ k' : Nat, (∀ (l1A : Nat) (l2I : Int32) (l3I : Int32) (S : wPS) (V : mV) , mRel α S Ln V → mK l1A = 3 → mX5_loadWeights_go F k' 0 l1A l2I l3I 0 V = some (v, V1) → (∀ S1, mRel α S1 Ln V1 → mFr α S S1 → Φ v S1) → rX5_loadWeights_go F k' 0 (α 4) (α l1A) l2I l3I 0 S Φ) ∧ (∀ (l1A : Nat) (l2I : Int32) (l3I : Int32) (l4I : Int32) (S : wPS) (V : mV) , mRel α S Ln V → mK l1A = 3 → mX5_loadWeights_go F k' 1 l1A l2I l3I l4I V = some (v, V1) → (∀ S1, mRel α S1 Ln V1 → mFr α S S1 → Φ v S1) → rX5_loadWeights_go F k' 1 (α 4) (α l1A) l2I l3I l4I S Φ) ∧ (∀ (l1A : Nat) (l2I : Int32) (l3I : Int32) (S : wPS) (V : mV) , mRel α S Ln V → mK l1A = 3 → mX5_loadWeights_go F k' 2 l1A l2I l3I 0 V = some (v, V1) → (∀ S1, mRel α S1 Ln V1 → mFr α S S1 → Φ v S1) → rX5_loadWeights_go F k' 2 (α 4) (α l1A) l2I l3I 0 S Φ) := by
  intro k'
  induction k' with
  | zero => exact ⟨(fun _ _ _ _ _ _ _ h _ => by cases h), (fun _ _ _ _ _ _ _ _ h _ => by cases h), (fun _ _ _ _ _ _ _ h _ => by cases h)⟩
  | succ k' ih =>
    refine ⟨?_, ?_, ?_⟩
    · intro l1A l2I l3I S V R sl1A h k
      rw [mX5_loadWeights_go, if_pos rfl] at h
      rw [rX5_loadWeights_go, if_pos rfl]
      unfold mX5_loadWeights_b0 at h
      unfold rX5_loadWeights_b0
      refine mIf h Iff.rfl (fun c1 h => ?_) (fun c1 h => ?_)
      · exact ih.2.2 _ _ _ _ _ R sl1A h (fun S1 R1 F1 => k S1 R1 F1)
      · exact ih.2.1 _ _ _ _ _ _ R sl1A h (fun S1 R1 F1 => k S1 R1 F1)
    · intro l1A l2I l3I l4I S V R sl1A h k
      rw [mX5_loadWeights_go, if_neg (by decide), if_pos rfl] at h
      rw [rX5_loadWeights_go, if_neg (by decide), if_pos rfl]
      unfold mX5_loadWeights_b1 at h
      unfold rX5_loadWeights_b1
      refine mIf h (by rw [show gEntry_size S (α l1A) = V.fI l1A 1 from (mg_I (i := l1A) R (mO3 sl1A) rfl 1)]) (fun c2 h => ?_) (fun c2 h => ?_)
      · refine mGd h (by rw [show S.len (wkAd (gInequalities_table S (α 4))) = 14 from (mg_len (i := 35) R (mAr (by decide)) (mg_A (t := 35) R rfl rfl)), show gEntry_size S (α l1A) = V.fI l1A 1 from (mg_I (i := l1A) R (mO3 sl1A) rfl 1)]) (fun c3 h => ?_)
        obtain ⟨v5, hv5, h⟩ := mBN_some h
        refine LX5_limitOf hv5 R sl1A rfl rfl ?_
        refine mGd h (by rw [show S.len (wkAd (S.rA (wkAd (gInequalities_table S (α 4))) ((gEntry_size S (α l1A))).toNatClampNeg)) = 18 from ((mg_len R (mA14 (mKA35 (Nat.lt_of_not_le (fun z => c3 (Or.inr z))))) (mg_RA R (mRA35 (Nat.lt_of_not_le (fun z => c3 (Or.inr z)))) (mg_A (t := 35) R rfl rfl) (by rw [show gEntry_size S (α l1A) = V.fI l1A 1 from (mg_I (i := l1A) R (mO3 sl1A) rfl 1)]))).trans (mLA35 (Nat.lt_of_not_le (fun z => c3 (Or.inr z)))))]) (fun c4 h => ?_)
        obtain ⟨V11, eV11, h⟩ := mLt_some h
        refine mU_J eV11 R (mA14 (mKA35 (Nat.lt_of_not_le (fun z => c3 (Or.inr z))))) (mg_RA R (mRA35 (Nat.lt_of_not_le (fun z => c3 (Or.inr z)))) (mg_A (t := 35) R rfl rfl) (by rw [show gEntry_size S (α l1A) = V.fI l1A 1 from (mg_I (i := l1A) R (mO3 sl1A) rfl 1)])) rfl rfl (fun S11 R11 F11 => ?_)
        refine mLet h rfl (fun x12 ex12 h => ?_)
        exact ih.1 _ _ _ _ _ R11 sl1A h (fun S1 R1 F1 => k S1 R1 (F11.tr F1))
      · refine mGd h (by rw [show S.len (wkAd (gInequalities_table S (α 4))) = 14 from (mg_len (i := 35) R (mAr (by decide)) (mg_A (t := 35) R rfl rfl))]) (fun c5 h => ?_)
        obtain ⟨v15, hv15, h⟩ := mBN_some h
        refine LX5_times hv15 R sl1A rfl rfl rfl ?_
        refine mGd h (by rw [show S.len (wkAd (S.rA (wkAd (gInequalities_table S (α 4))) (l4I).toNatClampNeg)) = 18 from ((mg_len R (mA14 (mKA35 (Nat.lt_of_not_le (fun z => c5 (Or.inr z))))) (mg_RA R (mRA35 (Nat.lt_of_not_le (fun z => c5 (Or.inr z)))) (mg_A (t := 35) R rfl rfl) rfl)).trans (mLA35 (Nat.lt_of_not_le (fun z => c5 (Or.inr z)))))]) (fun c6 h => ?_)
        obtain ⟨V21, eV21, h⟩ := mLt_some h
        refine mU_J eV21 R (mA14 (mKA35 (Nat.lt_of_not_le (fun z => c5 (Or.inr z))))) (mg_RA R (mRA35 (Nat.lt_of_not_le (fun z => c5 (Or.inr z)))) (mg_A (t := 35) R rfl rfl) rfl) rfl rfl (fun S21 R21 F21 => ?_)
        refine mLet h rfl (fun x22 ex22 h => ?_)
        exact ih.2.1 _ _ _ _ _ _ R21 sl1A h (fun S1 R1 F1 => k S1 R1 (F21.tr F1))
    · intro l1A l2I l3I S V R sl1A h k
      rw [mX5_loadWeights_go, if_neg (by decide), if_neg (by decide), if_pos rfl] at h
      rw [rX5_loadWeights_go, if_neg (by decide), if_neg (by decide), if_pos rfl]
      unfold mX5_loadWeights_b2 at h
      unfold rX5_loadWeights_b2
      refine mIf h (by rw [show gEntry_size S (α l1A) = V.fI l1A 1 from (mg_I (i := l1A) R (mO3 sl1A) rfl 1)]) (fun c7 h => ?_) (fun c7 h => ?_)
      · refine mGd h (by rw [show S.len (wkAd (gInequalities_table S (α 4))) = 14 from (mg_len (i := 35) R (mAr (by decide)) (mg_A (t := 35) R rfl rfl)), show gEntry_size S (α l1A) = V.fI l1A 1 from (mg_I (i := l1A) R (mO3 sl1A) rfl 1)]) (fun c8 h => ?_)
        refine mGd h (by rw [show S.len (wkAd (S.rA (wkAd (gInequalities_table S (α 4))) ((gEntry_size S (α l1A))).toNatClampNeg)) = 18 from ((mg_len R (mA14 (mKA35 (Nat.lt_of_not_le (fun z => c8 (Or.inr z))))) (mg_RA R (mRA35 (Nat.lt_of_not_le (fun z => c8 (Or.inr z)))) (mg_A (t := 35) R rfl rfl) (by rw [show gEntry_size S (α l1A) = V.fI l1A 1 from (mg_I (i := l1A) R (mO3 sl1A) rfl 1)]))).trans (mLA35 (Nat.lt_of_not_le (fun z => c8 (Or.inr z))))), show gInequalities_columns S (α 4) = V.fI 4 5 from (mg_I (i := 4) R (by decide) rfl 5)]) (fun c9 h => ?_)
        obtain ⟨V27, eV27, h⟩ := mLt_some h
        refine mU_J eV27 R (mA14 (mKA35 (Nat.lt_of_not_le (fun z => c8 (Or.inr z))))) (mg_RA R (mRA35 (Nat.lt_of_not_le (fun z => c8 (Or.inr z)))) (mg_A (t := 35) R rfl rfl) (by rw [show gEntry_size S (α l1A) = V.fI l1A 1 from (mg_I (i := l1A) R (mO3 sl1A) rfl 1)])) (by rw [show gInequalities_columns S (α 4) = V.fI 4 5 from (mg_I (i := 4) R (by decide) rfl 5)]) rfl (fun S27 R27 F27 => ?_)
        obtain ⟨v28, V29, hv28, h⟩ := mBW_some h
        refine LX5_begin hv28 R27 rfl (fun S29 R29 F29 => ?_)
        obtain ⟨rfl, rfl⟩ := mRW h
        exact k _ R29 (F27.tr F29)
      · refine mGd h (by rw [show S.len (wkAd (gInequalities_table S (α 4))) = 14 from (mg_len (i := 35) R (mAr (by decide)) (mg_A (t := 35) R rfl rfl))]) (fun c10 h => ?_)
        refine mGd h (by rw [show S.len (wkAd (S.rA (wkAd (gInequalities_table S (α 4))) (l3I).toNatClampNeg)) = 18 from ((mg_len R (mA14 (mKA35 (Nat.lt_of_not_le (fun z => c10 (Or.inr z))))) (mg_RA R (mRA35 (Nat.lt_of_not_le (fun z => c10 (Or.inr z)))) (mg_A (t := 35) R rfl rfl) rfl)).trans (mLA35 (Nat.lt_of_not_le (fun z => c10 (Or.inr z)))))]) (fun c11 h => ?_)
        obtain ⟨V36, eV36, h⟩ := mLt_some h
        refine mU_J eV36 R (mA14 (mKA35 (Nat.lt_of_not_le (fun z => c10 (Or.inr z))))) (mg_RA R (mRA35 (Nat.lt_of_not_le (fun z => c10 (Or.inr z)))) (mg_A (t := 35) R rfl rfl) rfl) rfl rfl (fun S36 R36 F36 => ?_)
        refine mLet h rfl (fun x37 ex37 h => ?_)
        exact ih.2.2 _ _ _ _ _ R36 sl1A h (fun S1 R1 F1 => k S1 R1 (F36.tr F1))
set_option maxHeartbeats 4000000 in
set_option maxRecDepth 100000 in
theorem LX5_loadWeights {α : Nat → Nat} {F : Nat} {S : wPS} {Ln : Nat → Nat} {V V1 : mV} {v : Unit} {Φ : (Unit → wPS → Prop)} {l0Ax : Nat} {l1Ax : Nat} {l1A : Nat} (h : mX5_loadWeights F l1A V = some (v, V1)) (R : mRel α S Ln V) (sl1A : mK l1A = 3) (el0A : l0Ax = α 4) (el1A : l1Ax = α l1A) (k : (∀ S1, mRel α S1 Ln V1 → mFr α S S1 → Φ v S1)) : rX5_loadWeights F l0Ax l1Ax S Φ := by
  have el0A := el0A.symm
  subst el0A
  have el1A := el1A.symm
  subst el1A
  have ih := LX5_loadWeights_go  (α := α) (F := F) (v := v) (Ln := Ln) (Φ := Φ) (V1 := V1) F
  unfold mX5_loadWeights mX5_loadWeights_s at h
  unfold rX5_loadWeights rX5_loadWeights_s
  refine mLet h (by rw [show gEntry_itemCount S (α l1A) = V.fI l1A 6 from (mg_I (i := l1A) R (mO3 sl1A) rfl 6)]) (fun x38 ex38 h => ?_)
  obtain ⟨V39, eV39, h⟩ := mLt_some h
  refine mU_F eV39 R (by decide) rfl (by rw [show gEntry_size S (α l1A) = V.fI l1A 1 from (mg_I (i := l1A) R (mO3 sl1A) rfl 1)]) (fun S39 R39 F39 => ?_)
  obtain ⟨V40, eV40, h⟩ := mLt_some h
  refine mU_F eV40 R39 (by decide) rfl (by rw [show gEntry_size S39 (α l1A) = V39.fI l1A 1 from (mg_I (i := l1A) R39 (mO3 sl1A) rfl 1)]) (fun S40 R40 F40 => ?_)
  obtain ⟨v41, V42, hv41, h⟩ := mBW_some h
  refine LX5_clearTable hv41 R40 rfl (fun S42 R42 F42 => ?_)
  exact ih.1 _ _ _ _ _ R42 sl1A h (fun S1 R1 F1 => k S1 R1 (F39.tr (F40.tr (F42.tr F1))))
def mX5_isFulfilled_b0 (F : Nat) (rec : Nat → Int32 → mV → Option (Int32 × mV)) (l1I : Int32) (V : mV) : Option (Int32 × mV) :=
  (if (100000 : Int32) ≤ l1I then (mBW (mX5_lockRising F ((V.fI 4 4)) V) fun v2 V3 => (if (V3.fI 4 4) < 0 ∨ 14 ≤ ((V3.fI 4 4)).toNatClampNeg then none else (if (V3.fI 4 5) < 0 ∨ 18 ≤ ((V3.fI 4 5)).toNatClampNeg then none else (if (lg_cmp (V3.rJ (36 + ((V3.fI 4 4)).toNatClampNeg) ((V3.fI 4 5)).toNatClampNeg) (0 : Int64)) = 0 then some ((1 : Int32), V3) else some ((0 : Int32), V3))))) else (mBW (mX5_improves F ((V.fI 4 4)) V) fun v11 V12 => (if v11 = 0 then (mBW (mX5_lockRising F ((V12.fI 4 4)) V12) fun v18 V19 => (if (V19.fI 4 4) < 0 ∨ 14 ≤ ((V19.fI 4 4)).toNatClampNeg then none else (if (V19.fI 4 5) < 0 ∨ 18 ≤ ((V19.fI 4 5)).toNatClampNeg then none else (if (lg_cmp (V19.rJ (36 + ((V19.fI 4 4)).toNatClampNeg) ((V19.fI 4 5)).toNatClampNeg) (0 : Int64)) = 0 then some ((1 : Int32), V19) else some ((0 : Int32), V19))))) else (mLt (l1I + (1 : Int32)) fun x17 => (rec 0 (x17) V12)))))
def mX5_isFulfilled_go (F : Nat) : Nat → Nat → Int32 → mV → Option (Int32 × mV)
  | 0, _, _, _ => none
  | k' + 1, lab, l1I, V => if lab = 0 then mX5_isFulfilled_b0 F (mX5_isFulfilled_go F k') l1I V else none
def mX5_isFulfilled_s (F : Nat) (rec : Nat → Int32 → mV → Option (Int32 × mV)) (V : mV) : Option (Int32 × mV) :=
  (rec 0 ((0 : Int32)) V)
def mX5_isFulfilled (F : Nat) (V : mV) : Option (Int32 × mV) := mX5_isFulfilled_s F (mX5_isFulfilled_go F F) V
set_option maxHeartbeats 4000000 in
set_option maxRecDepth 100000 in
theorem LX5_isFulfilled_go {α : Nat → Nat} {F : Nat} {Ln : Nat → Nat} {v : Int32} {V1 : mV} {Φ : (Int32 → wPS → Prop)} : ∀ k' : Nat, (∀ (l1I : Int32) (S : wPS) (V : mV) , mRel α S Ln V → mX5_isFulfilled_go F k' 0 l1I V = some (v, V1) → (∀ S1, mRel α S1 Ln V1 → mFr α S S1 → Φ v S1) → rX5_isFulfilled_go F k' 0 (α 4) l1I S Φ) := by
  intro k'
  induction k' with
  | zero => exact (fun _ _ _ _ h _ => by cases h)
  | succ k' ih =>
    intro l1I S V R h k
    rw [mX5_isFulfilled_go, if_pos rfl] at h
    rw [rX5_isFulfilled_go, if_pos rfl]
    unfold mX5_isFulfilled_b0 at h
    unfold rX5_isFulfilled_b0
    refine mIf h Iff.rfl (fun c1 h => ?_) (fun c1 h => ?_)
    · obtain ⟨v2, V3, hv2, h⟩ := mBW_some h
      refine LX5_lockRising hv2 R rfl (by rw [show gInequalities_rows S (α 4) = V.fI 4 4 from (mg_I (i := 4) R (by decide) rfl 4)]) (fun S3 R3 F3 => ?_)
      refine mGd h (by rw [show S3.len (wkAd (gInequalities_table S3 (α 4))) = 14 from (mg_len (i := 35) R3 (mAr (by decide)) (mg_A (t := 35) R3 rfl rfl)), show gInequalities_rows S3 (α 4) = V3.fI 4 4 from (mg_I (i := 4) R3 (by decide) rfl 4)]) (fun c2 h => ?_)
      refine mGd h (by rw [show S3.len (wkAd (S3.rA (wkAd (gInequalities_table S3 (α 4))) ((gInequalities_rows S3 (α 4))).toNatClampNeg)) = 18 from ((mg_len R3 (mA14 (mKA35 (Nat.lt_of_not_le (fun z => c2 (Or.inr z))))) (mg_RA R3 (mRA35 (Nat.lt_of_not_le (fun z => c2 (Or.inr z)))) (mg_A (t := 35) R3 rfl rfl) (by rw [show gInequalities_rows S3 (α 4) = V3.fI 4 4 from (mg_I (i := 4) R3 (by decide) rfl 4)]))).trans (mLA35 (Nat.lt_of_not_le (fun z => c2 (Or.inr z))))), show gInequalities_columns S3 (α 4) = V3.fI 4 5 from (mg_I (i := 4) R3 (by decide) rfl 5)]) (fun c3 h => ?_)
      refine mIf h (by rw [show S3.rJ (wkAd (S3.rA (wkAd (gInequalities_table S3 (α 4))) ((gInequalities_rows S3 (α 4))).toNatClampNeg)) ((gInequalities_columns S3 (α 4))).toNatClampNeg = V3.rJ (36 + ((V3.fI 4 4)).toNatClampNeg) ((V3.fI 4 5)).toNatClampNeg from (mg_rJ (i := (36 + ((V3.fI 4 4)).toNatClampNeg)) R3 (mA14 (mKA35 (Nat.lt_of_not_le (fun z => c2 (Or.inr z))))) (mg_RA R3 (mRA35 (Nat.lt_of_not_le (fun z => c2 (Or.inr z)))) (mg_A (t := 35) R3 rfl rfl) (by rw [show gInequalities_rows S3 (α 4) = V3.fI 4 4 from (mg_I (i := 4) R3 (by decide) rfl 4)])) (by rw [show gInequalities_columns S3 (α 4) = V3.fI 4 5 from (mg_I (i := 4) R3 (by decide) rfl 5)]))]) (fun c4 h => ?_) (fun c4 h => ?_)
      · obtain ⟨rfl, rfl⟩ := mRW h
        exact k _ R3 F3
      · obtain ⟨rfl, rfl⟩ := mRW h
        exact k _ R3 F3
    · obtain ⟨v11, V12, hv11, h⟩ := mBW_some h
      refine LX5_improves hv11 R rfl (by rw [show gInequalities_rows S (α 4) = V.fI 4 4 from (mg_I (i := 4) R (by decide) rfl 4)]) (fun S12 R12 F12 => ?_)
      refine mIf h Iff.rfl (fun c5 h => ?_) (fun c5 h => ?_)
      · obtain ⟨v18, V19, hv18, h⟩ := mBW_some h
        refine LX5_lockRising hv18 R12 rfl (by rw [show gInequalities_rows S12 (α 4) = V12.fI 4 4 from (mg_I (i := 4) R12 (by decide) rfl 4)]) (fun S19 R19 F19 => ?_)
        refine mGd h (by rw [show S19.len (wkAd (gInequalities_table S19 (α 4))) = 14 from (mg_len (i := 35) R19 (mAr (by decide)) (mg_A (t := 35) R19 rfl rfl)), show gInequalities_rows S19 (α 4) = V19.fI 4 4 from (mg_I (i := 4) R19 (by decide) rfl 4)]) (fun c6 h => ?_)
        refine mGd h (by rw [show S19.len (wkAd (S19.rA (wkAd (gInequalities_table S19 (α 4))) ((gInequalities_rows S19 (α 4))).toNatClampNeg)) = 18 from ((mg_len R19 (mA14 (mKA35 (Nat.lt_of_not_le (fun z => c6 (Or.inr z))))) (mg_RA R19 (mRA35 (Nat.lt_of_not_le (fun z => c6 (Or.inr z)))) (mg_A (t := 35) R19 rfl rfl) (by rw [show gInequalities_rows S19 (α 4) = V19.fI 4 4 from (mg_I (i := 4) R19 (by decide) rfl 4)]))).trans (mLA35 (Nat.lt_of_not_le (fun z => c6 (Or.inr z))))), show gInequalities_columns S19 (α 4) = V19.fI 4 5 from (mg_I (i := 4) R19 (by decide) rfl 5)]) (fun c7 h => ?_)
        refine mIf h (by rw [show S19.rJ (wkAd (S19.rA (wkAd (gInequalities_table S19 (α 4))) ((gInequalities_rows S19 (α 4))).toNatClampNeg)) ((gInequalities_columns S19 (α 4))).toNatClampNeg = V19.rJ (36 + ((V19.fI 4 4)).toNatClampNeg) ((V19.fI 4 5)).toNatClampNeg from (mg_rJ (i := (36 + ((V19.fI 4 4)).toNatClampNeg)) R19 (mA14 (mKA35 (Nat.lt_of_not_le (fun z => c6 (Or.inr z))))) (mg_RA R19 (mRA35 (Nat.lt_of_not_le (fun z => c6 (Or.inr z)))) (mg_A (t := 35) R19 rfl rfl) (by rw [show gInequalities_rows S19 (α 4) = V19.fI 4 4 from (mg_I (i := 4) R19 (by decide) rfl 4)])) (by rw [show gInequalities_columns S19 (α 4) = V19.fI 4 5 from (mg_I (i := 4) R19 (by decide) rfl 5)]))]) (fun c8 h => ?_) (fun c8 h => ?_)
        · obtain ⟨rfl, rfl⟩ := mRW h
          exact k _ R19 (F12.tr F19)
        · obtain ⟨rfl, rfl⟩ := mRW h
          exact k _ R19 (F12.tr F19)
      · refine mLet h rfl (fun x17 ex17 h => ?_)
        exact ih _ _ _ R12 h (fun S1 R1 F1 => k S1 R1 (F12.tr F1))
set_option maxHeartbeats 4000000 in
set_option maxRecDepth 100000 in
theorem LX5_isFulfilled {α : Nat → Nat} {F : Nat} {S : wPS} {Ln : Nat → Nat} {V V1 : mV} {v : Int32} {Φ : (Int32 → wPS → Prop)} {l0Ax : Nat} (h : mX5_isFulfilled F V = some (v, V1)) (R : mRel α S Ln V) (el0A : l0Ax = α 4) (k : (∀ S1, mRel α S1 Ln V1 → mFr α S S1 → Φ v S1)) : rX5_isFulfilled F l0Ax S Φ := by
  have el0A := el0A.symm
  subst el0A
  have ih := LX5_isFulfilled_go  (α := α) (F := F) (v := v) (Ln := Ln) (Φ := Φ) (V1 := V1) F
  unfold mX5_isFulfilled mX5_isFulfilled_s at h
  unfold rX5_isFulfilled rX5_isFulfilled_s
  exact ih _ _ _ R h (fun S1 R1 F1 => k S1 R1 F1)
end
