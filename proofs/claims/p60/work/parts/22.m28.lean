/-! LIFTED BY PROGRAM (lift.py): X8_writePrime, X8_writeParts, X8_continueChain, X10_reachAll. -/
section
def mX8_writePrime_b0 (F : Nat) (rc : (Nat → Nat) → Int32 → Nat → Int32 → mV → Option (Unit × (Nat → Nat) × mV)) (rec : Nat → (Nat → Nat) → Nat → Int32 → Int32 → Int32 → mV → Option (Unit × (Nat → Nat) × mV)) (Ln : Nat → Nat) (l1A : Nat) (l2I : Int32) (l3I : Int32) (l4I : Int32) (V : mV) : Option (Unit × (Nat → Nat) × mV) :=
  (if (40 : Int32) ≤ l4I then some ((), Ln, V) else (if l3I ≤ (1 : Int32) then some ((), Ln, V) else (mBN (mX8_leastDivisor F (l3I)) fun v3 => (mBA (rc Ln (v3) l1A ((l2I + (1 : Int32))) V) fun v8 L9 V9 => (mBN (mX8_withoutDivisor F (l3I) (v3)) fun v13 => (mLt (l4I + (1 : Int32)) fun x18 => (rec 0 L9 l1A (l2I) (v13) (x18) V9)))))))
def mX8_writePrime_go (F : Nat) (rc : (Nat → Nat) → Int32 → Nat → Int32 → mV → Option (Unit × (Nat → Nat) × mV)) : Nat → Nat → (Nat → Nat) → Nat → Int32 → Int32 → Int32 → mV → Option (Unit × (Nat → Nat) × mV)
  | 0, _, _, _, _, _, _, _ => none
  | k' + 1, lab, Ln, l1A, l2I, l3I, l4I, V => if lab = 0 then mX8_writePrime_b0 F rc (mX8_writePrime_go F rc k') Ln l1A l2I l3I l4I V else none
def mX8_writePrime_s (F : Nat) (rc : (Nat → Nat) → Int32 → Nat → Int32 → mV → Option (Unit × (Nat → Nat) × mV)) (rec : Nat → (Nat → Nat) → Nat → Int32 → Int32 → Int32 → mV → Option (Unit × (Nat → Nat) × mV)) (Ln : Nat → Nat) (l0I : Int32) (l1A : Nat) (l2I : Int32) (V : mV) : Option (Unit × (Nat → Nat) × mV) :=
  (mBA (mX9_add F Ln l1A (l0I) V) fun v19 L20 V20 => (if l0I ≤ (2 : Int32) then some ((), L20, V20) else (if l2I ≤ (40 : Int32) then (mBN (mX8_baseOf F (l0I)) fun v26 => (mBA (mX9_add F L20 l1A (v26) V20) fun v31 L32 V32 => (mLt (l0I - (1 : Int32)) fun x36 => (rec 0 L32 l1A (l2I) (x36) ((0 : Int32)) V32)))) else some ((), L20, V20))))
def mX8_writePrime_a (F : Nat) (rc : (Nat → Nat) → Int32 → Nat → Int32 → mV → Option (Unit × (Nat → Nat) × mV)) (Ln : Nat → Nat) (l0I : Int32) (l1A : Nat) (l2I : Int32) (V : mV) : Option (Unit × (Nat → Nat) × mV) := mX8_writePrime_s F rc (mX8_writePrime_go F rc F) Ln l0I l1A l2I V
def mX8_writePrime (F : Nat) : Nat → (Nat → Nat) → Int32 → Nat → Int32 → mV → Option (Unit × (Nat → Nat) × mV)
  | 0, _, _, _, _, _ => none
  | j + 1, Ln, l0I, l1A, l2I, V => mX8_writePrime_a F (mX8_writePrime F j) Ln l0I l1A l2I V
set_option maxHeartbeats 4000000 in
set_option maxRecDepth 100000 in
theorem MX8_writePrime_go {rc : (Nat → Nat) → Int32 → Nat → Int32 → mV → Option (Unit × (Nat → Nat) × mV)} (hrcM : ∀ {Ln Ln1 : Nat → Nat} {V V1 : mV} {v : Unit} {l0I : Int32} {l1A : Nat} {l2I : Int32}, rc Ln l0I l1A l2I V = some (v, Ln1, V1) → mP Ln1 ≤ mP Ln) {F : Nat} {v : Unit} {Ln1 : Nat → Nat} {V1 : mV} : ∀ k' : Nat, (∀ (l1A : Nat) (l2I : Int32) (l3I : Int32) (l4I : Int32) (Ln : Nat → Nat) (V : mV), mX8_writePrime_go F rc k' 0 Ln l1A l2I l3I l4I V = some (v, Ln1, V1) → mP Ln1 ≤ mP Ln) := by
  intro k'
  induction k' with
  | zero => exact (fun _ _ _ _ _ _ h => by cases h)
  | succ k' ihM =>
    skip
    intro l1A l2I l3I l4I Ln V h
    rw [mX8_writePrime_go, if_pos rfl] at h
    unfold mX8_writePrime_b0 at h
    rcases mIf_some h with ⟨_, h⟩ | ⟨_, h⟩
    · cases h
      exact Nat.le_refl _
    · rcases mIf_some h with ⟨_, h⟩ | ⟨_, h⟩
      · cases h
        exact Nat.le_refl _
      · obtain ⟨_, _, h⟩ := mBN_some h
        obtain ⟨_, _, _, z1, h⟩ := mBA_some h
        refine Nat.le_trans ?_ (hrcM z1)
        obtain ⟨_, _, h⟩ := mBN_some h
        obtain ⟨_, _, h⟩ := mLt_some h
        exact ihM _ _ _ _ _ _ h
set_option maxHeartbeats 4000000 in
set_option maxRecDepth 100000 in
theorem MX8_writePrime_a {rc : (Nat → Nat) → Int32 → Nat → Int32 → mV → Option (Unit × (Nat → Nat) × mV)} (hrcM : ∀ {Ln Ln1 : Nat → Nat} {V V1 : mV} {v : Unit} {l0I : Int32} {l1A : Nat} {l2I : Int32}, rc Ln l0I l1A l2I V = some (v, Ln1, V1) → mP Ln1 ≤ mP Ln) {F : Nat} {Ln Ln1 : Nat → Nat} {V V1 : mV} {v : Unit} {l0I : Int32} {l1A : Nat} {l2I : Int32} (h : mX8_writePrime_a F rc Ln l0I l1A l2I V = some (v, Ln1, V1)) : mP Ln1 ≤ mP Ln := by
  have ihM := MX8_writePrime_go (F := F) (v := v) (Ln1 := Ln1) (V1 := V1) (rc := rc) @hrcM F
  unfold mX8_writePrime_a mX8_writePrime_s at h
  obtain ⟨_, _, _, z2, h⟩ := mBA_some h
  refine Nat.le_trans ?_ (MX9_add z2)
  rcases mIf_some h with ⟨_, h⟩ | ⟨_, h⟩
  · cases h
    exact Nat.le_refl _
  · rcases mIf_some h with ⟨_, h⟩ | ⟨_, h⟩
    · obtain ⟨_, _, h⟩ := mBN_some h
      obtain ⟨_, _, _, z3, h⟩ := mBA_some h
      refine Nat.le_trans ?_ (MX9_add z3)
      obtain ⟨_, _, h⟩ := mLt_some h
      exact ihM _ _ _ _ _ _ h
    · cases h
      exact Nat.le_refl _
theorem MX8_writePrime_d {F : Nat} : ∀ (j : Nat) {Ln Ln1 : Nat → Nat} {V V1 : mV} {v : Unit} {l0I : Int32} {l1A : Nat} {l2I : Int32} (h : mX8_writePrime F j Ln l0I l1A l2I V = some (v, Ln1, V1)), mP Ln1 ≤ mP Ln
  | 0, _, _, _, _, _, _, _, _, h => by cases h
  | j + 1, _, _, _, _, _, _, _, _, h => MX8_writePrime_a (fun h => MX8_writePrime_d j h) h
theorem MX8_writePrime {F j : Nat} {Ln Ln1 : Nat → Nat} {V V1 : mV} {v : Unit} {l0I : Int32} {l1A : Nat} {l2I : Int32} (h : mX8_writePrime F j Ln l0I l1A l2I V = some (v, Ln1, V1)) : mP Ln1 ≤ mP Ln := MX8_writePrime_d j h
set_option maxHeartbeats 4000000 in
set_option maxRecDepth 100000 in
theorem LX8_writePrime_go {α : Nat → Nat} {k0 n0 : Nat} {rc0 : Nat → Nat → Int32 → Nat → Int32 → wPS → (Unit → wPS → Prop) → Prop} {rc : (Nat → Nat) → Int32 → Nat → Int32 → mV → Option (Unit × (Nat → Nat) × mV)} (hrc : ∀ {S : wPS} {Ln Ln1 : Nat → Nat} {V V1 : mV} {v : Unit}  {l0Ix l0I : Int32} {l1Ax : Nat} {l1A : Nat} {l2Ix l2I : Int32} {k0 n0 : Nat} {Φ : (Unit → wPS → Prop)}, rc Ln l0I l1A l2I V = some (v, Ln1, V1) → mRel α S Ln V → mK l1A = 9 → l0Ix = l0I → l1Ax = α l1A → l2Ix = l2I → (mP Ln - mP Ln1) / 16 ≤ k0 → mP Ln - mP Ln1 ≤ n0 → (∀ S1, mRel α S1 Ln1 V1 → mFr α S S1 → Φ v S1) → rc0 k0 n0  l0Ix l1Ax l2Ix S Φ) (hrcM : ∀ {Ln Ln1 : Nat → Nat} {V V1 : mV} {v : Unit} {l0I : Int32} {l1A : Nat} {l2I : Int32}, rc Ln l0I l1A l2I V = some (v, Ln1, V1) → mP Ln1 ≤ mP Ln) {F : Nat} {v : Unit} {Ln1 : Nat → Nat} {V1 : mV} {Φ : (Unit → wPS → Prop)} : ∀ k' : Nat, (∀ (l1A : Nat) (l2I : Int32) (l3I : Int32) (l4I : Int32) (S : wPS) (V : mV) (Ln : Nat → Nat) (c s : Nat), mRel α S Ln V → mK l1A = 9 → mX8_writePrime_go F rc k' 0 Ln l1A l2I l3I l4I V = some (v, Ln1, V1) → c + (mP Ln - mP Ln1) / 16 ≤ k0 → s + (mP Ln - mP Ln1) ≤ n0 → (∀ S1, mRel α S1 Ln1 V1 → mFr α S S1 → Φ v S1) → rX8_writePrime_go F k0 n0 rc0 k' 0 c s (α l1A) l2I l3I l4I S Φ) := by
  intro k'
  induction k' with
  | zero => exact (fun _ _ _ _ _ _ _ _ _ _ _ h _ _ _ => by cases h)
  | succ k' ih =>
    have ihM := MX8_writePrime_go (F := F) (v := v) (Ln1 := Ln1) (V1 := V1) (rc := rc) @hrcM k'
    intro l1A l2I l3I l4I S V Ln c s R sl1A h hk hn k
    rw [mX8_writePrime_go, if_pos rfl] at h
    rw [rX8_writePrime_go, if_pos rfl]
    unfold mX8_writePrime_b0 at h
    unfold rX8_writePrime_b0
    refine mIf h Iff.rfl (fun c4 h => ?_) (fun c4 h => ?_)
    · obtain ⟨rfl, rfl, rfl⟩ := mRA3 h
      exact k _ R mFr.rf
    · refine mIf h Iff.rfl (fun c5 h => ?_) (fun c5 h => ?_)
      · obtain ⟨rfl, rfl, rfl⟩ := mRA3 h
        exact k _ R mFr.rf
      · obtain ⟨v3, hv3, h⟩ := mBN_some h
        refine LX8_leastDivisor hv3 rfl ?_
        obtain ⟨v8, L9, V9, hv8, h⟩ := mBA_some h
        have mv8 : mP L9 ≤ mP Ln := hrcM hv8
        have qv8 : mP Ln1 ≤ mP L9 := by
          obtain ⟨_, _, h⟩ := mBN_some h
          obtain ⟨_, _, h⟩ := mLt_some h
          exact ihM _ _ _ _ _ _ h
        refine ⟨(mP Ln - mP L9) / 16, mP Ln - mP L9, by omega, by omega, ?_⟩
        refine hrc hv8 R sl1A rfl rfl rfl (by omega) (by omega) (fun S9 R9 F9 => ?_)
        obtain ⟨v13, hv13, h⟩ := mBN_some h
        refine LX8_withoutDivisor hv13 rfl rfl ?_
        refine mLet h rfl (fun x18 ex18 h => ?_)
        exact ih _ _ _ _ _ _ _ _ _ R9 sl1A h (by omega) (by omega) (fun S1 R1 F1 => k S1 R1 (F9.tr F1))
set_option maxHeartbeats 4000000 in
set_option maxRecDepth 100000 in
theorem LX8_writePrime_a {α : Nat → Nat} {F : Nat} {S : wPS} {Ln Ln1 : Nat → Nat} {V V1 : mV} {v : Unit} {Φ : (Unit → wPS → Prop)} {l0Ix l0I : Int32} {l1Ax : Nat} {l1A : Nat} {l2Ix l2I : Int32} {k0 n0 : Nat} {rc0 : Nat → Nat → Int32 → Nat → Int32 → wPS → (Unit → wPS → Prop) → Prop} {rc : (Nat → Nat) → Int32 → Nat → Int32 → mV → Option (Unit × (Nat → Nat) × mV)} (hrc : ∀ {S : wPS} {Ln Ln1 : Nat → Nat} {V V1 : mV} {v : Unit}  {l0Ix l0I : Int32} {l1Ax : Nat} {l1A : Nat} {l2Ix l2I : Int32} {k0 n0 : Nat} {Φ : (Unit → wPS → Prop)}, rc Ln l0I l1A l2I V = some (v, Ln1, V1) → mRel α S Ln V → mK l1A = 9 → l0Ix = l0I → l1Ax = α l1A → l2Ix = l2I → (mP Ln - mP Ln1) / 16 ≤ k0 → mP Ln - mP Ln1 ≤ n0 → (∀ S1, mRel α S1 Ln1 V1 → mFr α S S1 → Φ v S1) → rc0 k0 n0  l0Ix l1Ax l2Ix S Φ) (hrcM : ∀ {Ln Ln1 : Nat → Nat} {V V1 : mV} {v : Unit} {l0I : Int32} {l1A : Nat} {l2I : Int32}, rc Ln l0I l1A l2I V = some (v, Ln1, V1) → mP Ln1 ≤ mP Ln) (h : mX8_writePrime_a F rc Ln l0I l1A l2I V = some (v, Ln1, V1)) (R : mRel α S Ln V) (sl1A : mK l1A = 9) (el0I : l0Ix = l0I) (el1A : l1Ax = α l1A) (el2I : l2Ix = l2I) (hk : (mP Ln - mP Ln1) / 16 ≤ k0) (hn : mP Ln - mP Ln1 ≤ n0) (k : (∀ S1, mRel α S1 Ln1 V1 → mFr α S S1 → Φ v S1)) : rX8_writePrime_a F k0 n0 rc0 l0Ix l1Ax l2Ix S Φ := by
  have el0I := el0I.symm
  subst el0I
  have el1A := el1A.symm
  subst el1A
  have el2I := el2I.symm
  subst el2I
  have ih := LX8_writePrime_go  (α := α) (F := F) (v := v) (k0 := k0) (n0 := n0) (Ln1 := Ln1) (Φ := Φ) (V1 := V1) (rc0 := rc0) (rc := rc) @hrc @hrcM F
  have ihM := MX8_writePrime_go (F := F) (v := v) (Ln1 := Ln1) (V1 := V1) (rc := rc) @hrcM F
  unfold mX8_writePrime_a mX8_writePrime_s at h
  unfold rX8_writePrime_a rX8_writePrime_s
  obtain ⟨v19, L20, V20, hv19, h⟩ := mBA_some h
  have mv19 : mP L20 ≤ mP Ln := MX9_add hv19
  have qv19 : mP Ln1 ≤ mP L20 := by
    rcases mIf_some h with ⟨_, h⟩ | ⟨_, h⟩
    · cases h
      exact Nat.le_refl _
    · rcases mIf_some h with ⟨_, h⟩ | ⟨_, h⟩
      · obtain ⟨_, _, h⟩ := mBN_some h
        obtain ⟨_, _, _, z6, h⟩ := mBA_some h
        refine Nat.le_trans ?_ (MX9_add z6)
        obtain ⟨_, _, h⟩ := mLt_some h
        exact ihM _ _ _ _ _ _ h
      · cases h
        exact Nat.le_refl _
  refine ⟨(mP Ln - mP L20) / 16, mP Ln - mP L20, by omega, by omega, ?_⟩
  refine LX9_add hv19 R sl1A rfl rfl (by omega) (by omega) (fun S20 R20 F20 => ?_)
  refine mIf h Iff.rfl (fun c7 h => ?_) (fun c7 h => ?_)
  · obtain ⟨rfl, rfl, rfl⟩ := mRA3 h
    exact k _ R20 F20
  · refine mIf h Iff.rfl (fun c8 h => ?_) (fun c8 h => ?_)
    · obtain ⟨v26, hv26, h⟩ := mBN_some h
      refine LX8_baseOf hv26 rfl ?_
      obtain ⟨v31, L32, V32, hv31, h⟩ := mBA_some h
      have mv31 : mP L32 ≤ mP L20 := MX9_add hv31
      have qv31 : mP Ln1 ≤ mP L32 := by
        obtain ⟨_, _, h⟩ := mLt_some h
        exact ihM _ _ _ _ _ _ h
      refine ⟨(mP L20 - mP L32) / 16, mP L20 - mP L32, by omega, by omega, ?_⟩
      refine LX9_add hv31 R20 sl1A rfl rfl (by omega) (by omega) (fun S32 R32 F32 => ?_)
      refine mLet h rfl (fun x36 ex36 h => ?_)
      exact ih _ _ _ _ _ _ _ _ _ R32 sl1A h (by omega) (by omega) (fun S1 R1 F1 => k S1 R1 (F20.tr (F32.tr F1)))
    · obtain ⟨rfl, rfl, rfl⟩ := mRA3 h
      exact k _ R20 F20
theorem LX8_writePrime_d {α : Nat → Nat} {F : Nat} : ∀ (j : Nat) {S : wPS} {Ln Ln1 : Nat → Nat} {V V1 : mV} {v : Unit} {Φ : (Unit → wPS → Prop)} {l0Ix l0I : Int32} {l1Ax : Nat} {l1A : Nat} {l2Ix l2I : Int32} {k0 n0 : Nat}, mX8_writePrime F j Ln l0I l1A l2I V = some (v, Ln1, V1) → mRel α S Ln V → mK l1A = 9 → l0Ix = l0I → l1Ax = α l1A → l2Ix = l2I → (mP Ln - mP Ln1) / 16 ≤ k0 → mP Ln - mP Ln1 ≤ n0 → (∀ S1, mRel α S1 Ln1 V1 → mFr α S S1 → Φ v S1) → rX8_writePrime F j k0 n0 l0Ix l1Ax l2Ix S Φ := by
  intro j
  induction j with
  | zero => intro _ _ _ _ _ _ _ _ _ _ _ _ _ _ _ h; cases h
  | succ j ih =>
    intro _ _ _ _ _ _ _ _ _ _ _ _ _ _ _ h R a0 a1 a2 a3 hk hn k
    exact LX8_writePrime_a (rc := mX8_writePrime F j) (hrc := fun h => ih h) (hrcM := fun h => MX8_writePrime_d j h) h R a0 a1 a2 a3 hk hn k
theorem LX8_writePrime {α : Nat → Nat} {F j : Nat} {S : wPS} {Ln Ln1 : Nat → Nat} {V V1 : mV} {v : Unit} {Φ : (Unit → wPS → Prop)} {l0Ix l0I : Int32} {l1Ax : Nat} {l1A : Nat} {l2Ix l2I : Int32} {k0 n0 : Nat} (h : mX8_writePrime F j Ln l0I l1A l2I V = some (v, Ln1, V1)) (R : mRel α S Ln V) (sl1A : mK l1A = 9) (el0I : l0Ix = l0I) (el1A : l1Ax = α l1A) (el2I : l2Ix = l2I) (hk : (mP Ln - mP Ln1) / 16 ≤ k0) (hn : mP Ln - mP Ln1 ≤ n0) (k : (∀ S1, mRel α S1 Ln1 V1 → mFr α S S1 → Φ v S1)) : rX8_writePrime F j k0 n0 l0Ix l1Ax l2Ix S Φ := LX8_writePrime_d j h R sl1A el0I el1A el2I hk hn k
def mX8_writeParts_a (F : Nat) (rc : (Nat → Nat) → Int32 → Int32 → Nat → mV → Option (Unit × (Nat → Nat) × mV)) (Ln : Nat → Nat) (l1I : Int32) (l2I : Int32) (l3A : Nat) (V : mV) : Option (Unit × (Nat → Nat) × mV) :=
  (mBN (mX8_rootsOfPart F (l1I) (l2I) V) fun v1 => (if v1 = (1 : Int32) then (mBA (mX9_add F Ln l3A (l1I) V) fun v19 L20 V20 => (mBA (mX9_add F L20 l3A (l2I) V20) fun v24 L25 V25 => some ((), L25, V25))) else (if v1 ≤ (1 : Int32) then some ((), Ln, V) else (if (16 : Int32) ≤ l1I then some ((), Ln, V) else (mBA (rc Ln ((l1I + (1 : Int32))) (((2 : Int32) * l2I)) l3A V) fun v9 L10 V10 => (mBA (rc L10 ((l1I + (1 : Int32))) ((((2 : Int32) * l2I) + (1 : Int32))) l3A V10) fun v14 L15 V15 => some ((), L15, V15)))))))
def mX8_writeParts (F : Nat) : Nat → (Nat → Nat) → Int32 → Int32 → Nat → mV → Option (Unit × (Nat → Nat) × mV)
  | 0, _, _, _, _, _ => none
  | j + 1, Ln, l1I, l2I, l3A, V => mX8_writeParts_a F (mX8_writeParts F j) Ln l1I l2I l3A V
set_option maxHeartbeats 4000000 in
set_option maxRecDepth 100000 in
theorem MX8_writeParts_a {rc : (Nat → Nat) → Int32 → Int32 → Nat → mV → Option (Unit × (Nat → Nat) × mV)} (hrcM : ∀ {Ln Ln1 : Nat → Nat} {V V1 : mV} {v : Unit} {l1I : Int32} {l2I : Int32} {l3A : Nat}, rc Ln l1I l2I l3A V = some (v, Ln1, V1) → mP Ln1 ≤ mP Ln) {F : Nat} {Ln Ln1 : Nat → Nat} {V V1 : mV} {v : Unit} {l1I : Int32} {l2I : Int32} {l3A : Nat} (h : mX8_writeParts_a F rc Ln l1I l2I l3A V = some (v, Ln1, V1)) : mP Ln1 ≤ mP Ln := by
  unfold mX8_writeParts_a at h
  obtain ⟨_, _, h⟩ := mBN_some h
  rcases mIf_some h with ⟨_, h⟩ | ⟨_, h⟩
  · obtain ⟨_, _, _, z1, h⟩ := mBA_some h
    refine Nat.le_trans ?_ (MX9_add z1)
    obtain ⟨_, _, _, z2, h⟩ := mBA_some h
    refine Nat.le_trans ?_ (MX9_add z2)
    cases h
    exact Nat.le_refl _
  · rcases mIf_some h with ⟨_, h⟩ | ⟨_, h⟩
    · cases h
      exact Nat.le_refl _
    · rcases mIf_some h with ⟨_, h⟩ | ⟨_, h⟩
      · cases h
        exact Nat.le_refl _
      · obtain ⟨_, _, _, z3, h⟩ := mBA_some h
        refine Nat.le_trans ?_ (hrcM z3)
        obtain ⟨_, _, _, z4, h⟩ := mBA_some h
        refine Nat.le_trans ?_ (hrcM z4)
        cases h
        exact Nat.le_refl _
theorem MX8_writeParts_d {F : Nat} : ∀ (j : Nat) {Ln Ln1 : Nat → Nat} {V V1 : mV} {v : Unit} {l1I : Int32} {l2I : Int32} {l3A : Nat} (h : mX8_writeParts F j Ln l1I l2I l3A V = some (v, Ln1, V1)), mP Ln1 ≤ mP Ln
  | 0, _, _, _, _, _, _, _, _, h => by cases h
  | j + 1, _, _, _, _, _, _, _, _, h => MX8_writeParts_a (fun h => MX8_writeParts_d j h) h
theorem MX8_writeParts {F j : Nat} {Ln Ln1 : Nat → Nat} {V V1 : mV} {v : Unit} {l1I : Int32} {l2I : Int32} {l3A : Nat} (h : mX8_writeParts F j Ln l1I l2I l3A V = some (v, Ln1, V1)) : mP Ln1 ≤ mP Ln := MX8_writeParts_d j h
set_option maxHeartbeats 4000000 in
set_option maxRecDepth 100000 in
theorem LX8_writeParts_a {α : Nat → Nat} {F : Nat} {S : wPS} {Ln Ln1 : Nat → Nat} {V V1 : mV} {v : Unit} {Φ : (Unit → wPS → Prop)} {l0Ax : Nat} {l1Ix l1I : Int32} {l2Ix l2I : Int32} {l3Ax : Nat} {l3A : Nat} {k0 n0 : Nat} {rc0 : Nat → Nat → Nat → Int32 → Int32 → Nat → wPS → (Unit → wPS → Prop) → Prop} {rc : (Nat → Nat) → Int32 → Int32 → Nat → mV → Option (Unit × (Nat → Nat) × mV)} (hrc : ∀ {S : wPS} {Ln Ln1 : Nat → Nat} {V V1 : mV} {v : Unit}  {l0Ax : Nat} {l1Ix l1I : Int32} {l2Ix l2I : Int32} {l3Ax : Nat} {l3A : Nat} {k0 n0 : Nat} {Φ : (Unit → wPS → Prop)}, rc Ln l1I l2I l3A V = some (v, Ln1, V1) → mRel α S Ln V → mK l3A = 9 → l0Ax = α 6 → l1Ix = l1I → l2Ix = l2I → l3Ax = α l3A → (mP Ln - mP Ln1) / 16 ≤ k0 → mP Ln - mP Ln1 ≤ n0 → (∀ S1, mRel α S1 Ln1 V1 → mFr α S S1 → Φ v S1) → rc0 k0 n0  l0Ax l1Ix l2Ix l3Ax S Φ) (hrcM : ∀ {Ln Ln1 : Nat → Nat} {V V1 : mV} {v : Unit} {l1I : Int32} {l2I : Int32} {l3A : Nat}, rc Ln l1I l2I l3A V = some (v, Ln1, V1) → mP Ln1 ≤ mP Ln) (h : mX8_writeParts_a F rc Ln l1I l2I l3A V = some (v, Ln1, V1)) (R : mRel α S Ln V) (sl3A : mK l3A = 9) (el0A : l0Ax = α 6) (el1I : l1Ix = l1I) (el2I : l2Ix = l2I) (el3A : l3Ax = α l3A) (hk : (mP Ln - mP Ln1) / 16 ≤ k0) (hn : mP Ln - mP Ln1 ≤ n0) (k : (∀ S1, mRel α S1 Ln1 V1 → mFr α S S1 → Φ v S1)) : rX8_writeParts_a F k0 n0 rc0 l0Ax l1Ix l2Ix l3Ax S Φ := by
  have el0A := el0A.symm
  subst el0A
  have el1I := el1I.symm
  subst el1I
  have el2I := el2I.symm
  subst el2I
  have el3A := el3A.symm
  subst el3A
  unfold mX8_writeParts_a at h
  unfold rX8_writeParts_a
  obtain ⟨v1, hv1, h⟩ := mBN_some h
  refine LX8_rootsOfPart hv1 R rfl rfl rfl ?_
  refine mIf h Iff.rfl (fun c5 h => ?_) (fun c5 h => ?_)
  · obtain ⟨v19, L20, V20, hv19, h⟩ := mBA_some h
    have mv19 : mP L20 ≤ mP Ln := MX9_add hv19
    have qv19 : mP Ln1 ≤ mP L20 := by
      obtain ⟨_, _, _, z6, h⟩ := mBA_some h
      refine Nat.le_trans ?_ (MX9_add z6)
      cases h
      exact Nat.le_refl _
    refine ⟨(mP Ln - mP L20) / 16, mP Ln - mP L20, by omega, by omega, ?_⟩
    refine LX9_add hv19 R sl3A rfl rfl (by omega) (by omega) (fun S20 R20 F20 => ?_)
    obtain ⟨v24, L25, V25, hv24, h⟩ := mBA_some h
    have mv24 : mP L25 ≤ mP L20 := MX9_add hv24
    have qv24 : mP Ln1 ≤ mP L25 := by
      cases h
      exact Nat.le_refl _
    refine ⟨(mP L20 - mP L25) / 16, mP L20 - mP L25, by omega, by omega, ?_⟩
    refine LX9_add hv24 R20 sl3A rfl rfl (by omega) (by omega) (fun S25 R25 F25 => ?_)
    obtain ⟨rfl, rfl, rfl⟩ := mRA3 h
    exact k _ R25 (F20.tr F25)
  · refine mIf h Iff.rfl (fun c7 h => ?_) (fun c7 h => ?_)
    · obtain ⟨rfl, rfl, rfl⟩ := mRA3 h
      exact k _ R mFr.rf
    · refine mIf h Iff.rfl (fun c8 h => ?_) (fun c8 h => ?_)
      · obtain ⟨rfl, rfl, rfl⟩ := mRA3 h
        exact k _ R mFr.rf
      · obtain ⟨v9, L10, V10, hv9, h⟩ := mBA_some h
        have mv9 : mP L10 ≤ mP Ln := hrcM hv9
        have qv9 : mP Ln1 ≤ mP L10 := by
          obtain ⟨_, _, _, z9, h⟩ := mBA_some h
          refine Nat.le_trans ?_ (hrcM z9)
          cases h
          exact Nat.le_refl _
        refine ⟨(mP Ln - mP L10) / 16, mP Ln - mP L10, by omega, by omega, ?_⟩
        refine hrc hv9 R sl3A rfl rfl rfl rfl (by omega) (by omega) (fun S10 R10 F10 => ?_)
        obtain ⟨v14, L15, V15, hv14, h⟩ := mBA_some h
        have mv14 : mP L15 ≤ mP L10 := hrcM hv14
        have qv14 : mP Ln1 ≤ mP L15 := by
          cases h
          exact Nat.le_refl _
        refine ⟨(mP L10 - mP L15) / 16, mP L10 - mP L15, by omega, by omega, ?_⟩
        refine hrc hv14 R10 sl3A rfl rfl rfl rfl (by omega) (by omega) (fun S15 R15 F15 => ?_)
        obtain ⟨rfl, rfl, rfl⟩ := mRA3 h
        exact k _ R15 (F10.tr F15)
theorem LX8_writeParts_d {α : Nat → Nat} {F : Nat} : ∀ (j : Nat) {S : wPS} {Ln Ln1 : Nat → Nat} {V V1 : mV} {v : Unit} {Φ : (Unit → wPS → Prop)} {l0Ax : Nat} {l1Ix l1I : Int32} {l2Ix l2I : Int32} {l3Ax : Nat} {l3A : Nat} {k0 n0 : Nat}, mX8_writeParts F j Ln l1I l2I l3A V = some (v, Ln1, V1) → mRel α S Ln V → mK l3A = 9 → l0Ax = α 6 → l1Ix = l1I → l2Ix = l2I → l3Ax = α l3A → (mP Ln - mP Ln1) / 16 ≤ k0 → mP Ln - mP Ln1 ≤ n0 → (∀ S1, mRel α S1 Ln1 V1 → mFr α S S1 → Φ v S1) → rX8_writeParts F j k0 n0 l0Ax l1Ix l2Ix l3Ax S Φ := by
  intro j
  induction j with
  | zero => intro _ _ _ _ _ _ _ _ _ _ _ _ _ _ _ _ h; cases h
  | succ j ih =>
    intro _ _ _ _ _ _ _ _ _ _ _ _ _ _ _ _ h R a0 a1 a2 a3 a4 hk hn k
    exact LX8_writeParts_a (rc := mX8_writeParts F j) (hrc := fun h => ih h) (hrcM := fun h => MX8_writeParts_d j h) h R a0 a1 a2 a3 a4 hk hn k
theorem LX8_writeParts {α : Nat → Nat} {F j : Nat} {S : wPS} {Ln Ln1 : Nat → Nat} {V V1 : mV} {v : Unit} {Φ : (Unit → wPS → Prop)} {l0Ax : Nat} {l1Ix l1I : Int32} {l2Ix l2I : Int32} {l3Ax : Nat} {l3A : Nat} {k0 n0 : Nat} (h : mX8_writeParts F j Ln l1I l2I l3A V = some (v, Ln1, V1)) (R : mRel α S Ln V) (sl3A : mK l3A = 9) (el0A : l0Ax = α 6) (el1I : l1Ix = l1I) (el2I : l2Ix = l2I) (el3A : l3Ax = α l3A) (hk : (mP Ln - mP Ln1) / 16 ≤ k0) (hn : mP Ln - mP Ln1 ≤ n0) (k : (∀ S1, mRel α S1 Ln1 V1 → mFr α S S1 → Φ v S1)) : rX8_writeParts F j k0 n0 l0Ax l1Ix l2Ix l3Ax S Φ := LX8_writeParts_d j h R sl3A el0A el1I el2I el3A hk hn k
def mX8_continueChain_b0 (F : Nat) (rec : Nat → Int32 → mV → Option (Unit × mV)) (l1I : Int32) (V : mV) : Option (Unit × mV) :=
  (if (4 : Int32) ≤ l1I then (if (1 : Int32) < 0 ∨ 5 ≤ ((1 : Int32)).toNatClampNeg then none else (mBW (mX8_makeFree F (62 + ((1 : Int32)).toNatClampNeg) V) fun v4 V5 => (if (0 : Int32) < 0 ∨ 5 ≤ ((0 : Int32)).toNatClampNeg then none else (if (1 : Int32) < 0 ∨ 5 ≤ ((1 : Int32)).toNatClampNeg then none else (mLt (mI V5 67 ((1 : Int32)) (((V5.rI 67 ((0 : Int32)).toNatClampNeg) - (1 : Int32)))) fun V11 => (mLt (mF V11 6 8 ((2 : Int32))) fun V12 => (rec 1 0 V12))))))) else (if (1 : Int32) < 0 ∨ 5 ≤ ((1 : Int32)).toNatClampNeg then none else (if (0 : Int32) < 0 ∨ 5 ≤ ((0 : Int32)).toNatClampNeg then none else (if l1I < 0 ∨ 4 ≤ (l1I).toNatClampNeg then none else (if (l1I - (1 : Int32)) < 0 ∨ 4 ≤ ((l1I - (1 : Int32))).toNatClampNeg then none else (mLt (mJ V (62 + ((1 : Int32)).toNatClampNeg) ((l1I - (1 : Int32))) (((Int32.toInt64 l1I) * (V.rJ (62 + ((0 : Int32)).toNatClampNeg) (l1I).toNatClampNeg)))) fun V19 => (mLt (l1I + (1 : Int32)) fun x20 => (rec 0 (x20) V19))))))))
def mX8_continueChain_b1 (F : Nat) (rec : Nat → Int32 → mV → Option (Unit × mV)) (V : mV) : Option (Unit × mV) :=
  (if (5 : Int32) ≤ (V.fI 6 8) then some ((), V) else (if ((V.fI 6 8) - (1 : Int32)) < 0 ∨ 5 ≤ (((V.fI 6 8) - (1 : Int32))).toNatClampNeg then none else (if (V.rI 67 (((V.fI 6 8) - (1 : Int32))).toNatClampNeg) ≤ 0 then some ((), V) else (mBW (mX8_addRest F V) fun v24 V25 => (if v24 = 0 then some ((), V25) else (if (V25.fI 6 8) < 0 ∨ 5 ≤ ((V25.fI 6 8)).toNatClampNeg then none else (mBW (mX8_makeFree F (62 + ((V25.fI 6 8)).toNatClampNeg) V25) fun v32 V33 => (mLt (mF V33 6 8 (((V33.fI 6 8) + (1 : Int32)))) fun V37 => (rec 1 0 V37)))))))))
def mX8_continueChain_go (F : Nat) : Nat → Nat → Int32 → mV → Option (Unit × mV)
  | 0, _, _, _ => none
  | k' + 1, lab, l1I, V => if lab = 0 then mX8_continueChain_b0 F (mX8_continueChain_go F k') l1I V else if lab = 1 then mX8_continueChain_b1 F (mX8_continueChain_go F k') V else none
def mX8_continueChain_s (F : Nat) (rec : Nat → Int32 → mV → Option (Unit × mV)) (V : mV) : Option (Unit × mV) :=
  (mLt (mF V 6 8 ((1 : Int32))) fun V38 => (if (0 : Int32) < 0 ∨ 5 ≤ ((0 : Int32)).toNatClampNeg then none else (if (V38.rI 67 ((0 : Int32)).toNatClampNeg) = 0 then some ((), V38) else (if (1 : Int32) < 0 ∨ 5 ≤ ((1 : Int32)).toNatClampNeg then none else (mBW (mJ7_fill_d0a16 F (62 + ((1 : Int32)).toNatClampNeg) ((0 : Int64)) V38) fun v43 V44 => (rec 0 ((1 : Int32)) V44))))))
def mX8_continueChain (F : Nat) (V : mV) : Option (Unit × mV) := mX8_continueChain_s F (mX8_continueChain_go F F) V
set_option maxHeartbeats 4000000 in
set_option maxRecDepth 100000 in
theorem LX8_continueChain_go {α : Nat → Nat} {F : Nat} {Ln : Nat → Nat} {v : Unit} {V1 : mV} {Φ : (Unit → wPS → Prop)} : ∀ k' : Nat, (∀ (l1I : Int32) (S : wPS) (V : mV) , mRel α S Ln V → mX8_continueChain_go F k' 0 l1I V = some (v, V1) → (∀ S1, mRel α S1 Ln V1 → mFr α S S1 → Φ v S1) → rX8_continueChain_go F k' 0 (α 6) l1I S Φ) ∧ (∀ (S : wPS) (V : mV) , mRel α S Ln V → mX8_continueChain_go F k' 1 0 V = some (v, V1) → (∀ S1, mRel α S1 Ln V1 → mFr α S S1 → Φ v S1) → rX8_continueChain_go F k' 1 (α 6) 0 S Φ) := by
  intro k'
  induction k' with
  | zero => exact ⟨(fun _ _ _ _ h _ => by cases h), (fun _ _ _ h _ => by cases h)⟩
  | succ k' ih =>
    refine ⟨?_, ?_⟩
    · intro l1I S V R h k
      rw [mX8_continueChain_go, if_pos rfl] at h
      rw [rX8_continueChain_go, if_pos rfl]
      unfold mX8_continueChain_b0 at h
      unfold rX8_continueChain_b0
      refine mIf h Iff.rfl (fun c1 h => ?_) (fun c1 h => ?_)
      · refine mGd h (by rw [show S.len (wkAd (gNumbers_chain S (α 6))) = 5 from (mg_len (i := 61) R (mAr (by decide)) (mg_A (t := 61) R rfl rfl))]) (fun c2 h => ?_)
        obtain ⟨v4, V5, hv4, h⟩ := mBW_some h
        refine LX8_makeFree hv4 R (mKA61 (Nat.lt_of_not_le (fun z => c2 (Or.inr z)))) (mg_RA R (mRA61 (Nat.lt_of_not_le (fun z => c2 (Or.inr z)))) (mg_A (t := 61) R rfl rfl) rfl) (fun S5 R5 F5 => ?_)
        refine mGd h (by rw [show S5.len (wkAd (gNumbers_degrees S5 (α 6))) = 5 from (mg_len (i := 67) R5 (mA13 rfl) (mg_A (t := 67) R5 rfl rfl))]) (fun c3 h => ?_)
        refine mGd h (by rw [show S5.len (wkAd (gNumbers_degrees S5 (α 6))) = 5 from (mg_len (i := 67) R5 (mA13 rfl) (mg_A (t := 67) R5 rfl rfl))]) (fun c4 h => ?_)
        obtain ⟨V11, eV11, h⟩ := mLt_some h
        refine mU_I eV11 R5 (mA13 rfl) (mg_A (t := 67) R5 rfl rfl) rfl (by rw [show S5.rI (wkAd (gNumbers_degrees S5 (α 6))) ((0 : Int32)).toNatClampNeg = V5.rI 67 ((0 : Int32)).toNatClampNeg from (mg_rI (i := 67) R5 (mA13 rfl) (mg_A (t := 67) R5 rfl rfl) rfl)]) (fun S11 R11 F11 => ?_)
        obtain ⟨V12, eV12, h⟩ := mLt_some h
        refine mU_F eV12 R11 (by decide) rfl rfl (fun S12 R12 F12 => ?_)
        exact ih.2 _ _ R12 h (fun S1 R1 F1 => k S1 R1 (F5.tr (F11.tr (F12.tr F1))))
      · refine mGd h (by rw [show S.len (wkAd (gNumbers_chain S (α 6))) = 5 from (mg_len (i := 61) R (mAr (by decide)) (mg_A (t := 61) R rfl rfl))]) (fun c5 h => ?_)
        refine mGd h (by rw [show S.len (wkAd (gNumbers_chain S (α 6))) = 5 from (mg_len (i := 61) R (mAr (by decide)) (mg_A (t := 61) R rfl rfl))]) (fun c6 h => ?_)
        refine mGd h (by rw [show S.len (wkAd (S.rA (wkAd (gNumbers_chain S (α 6))) ((0 : Int32)).toNatClampNeg)) = 4 from ((mg_len R (mA14 (mKA61 (Nat.lt_of_not_le (fun z => c6 (Or.inr z))))) (mg_RA R (mRA61 (Nat.lt_of_not_le (fun z => c6 (Or.inr z)))) (mg_A (t := 61) R rfl rfl) rfl)).trans (mLA61 (Nat.lt_of_not_le (fun z => c6 (Or.inr z)))))]) (fun c7 h => ?_)
        refine mGd h (by rw [show S.len (wkAd (S.rA (wkAd (gNumbers_chain S (α 6))) ((1 : Int32)).toNatClampNeg)) = 4 from ((mg_len R (mA14 (mKA61 (Nat.lt_of_not_le (fun z => c5 (Or.inr z))))) (mg_RA R (mRA61 (Nat.lt_of_not_le (fun z => c5 (Or.inr z)))) (mg_A (t := 61) R rfl rfl) rfl)).trans (mLA61 (Nat.lt_of_not_le (fun z => c5 (Or.inr z)))))]) (fun c8 h => ?_)
        obtain ⟨V19, eV19, h⟩ := mLt_some h
        refine mU_J eV19 R (mA14 (mKA61 (Nat.lt_of_not_le (fun z => c5 (Or.inr z))))) (mg_RA R (mRA61 (Nat.lt_of_not_le (fun z => c5 (Or.inr z)))) (mg_A (t := 61) R rfl rfl) rfl) rfl (by rw [show S.rJ (wkAd (S.rA (wkAd (gNumbers_chain S (α 6))) ((0 : Int32)).toNatClampNeg)) (l1I).toNatClampNeg = V.rJ (62 + ((0 : Int32)).toNatClampNeg) (l1I).toNatClampNeg from (mg_rJ (i := (62 + ((0 : Int32)).toNatClampNeg)) R (mA14 (mKA61 (Nat.lt_of_not_le (fun z => c6 (Or.inr z))))) (mg_RA R (mRA61 (Nat.lt_of_not_le (fun z => c6 (Or.inr z)))) (mg_A (t := 61) R rfl rfl) rfl) rfl)]) (fun S19 R19 F19 => ?_)
        refine mLet h rfl (fun x20 ex20 h => ?_)
        exact ih.1 _ _ _ R19 h (fun S1 R1 F1 => k S1 R1 (F19.tr F1))
    · intro S V R h k
      rw [mX8_continueChain_go, if_neg (by decide), if_pos rfl] at h
      rw [rX8_continueChain_go, if_neg (by decide), if_pos rfl]
      unfold mX8_continueChain_b1 at h
      unfold rX8_continueChain_b1
      refine mIf h (by rw [show gNumbers_chainCount S (α 6) = V.fI 6 8 from (mg_I (i := 6) R (by decide) rfl 8)]) (fun c9 h => ?_) (fun c9 h => ?_)
      · obtain ⟨rfl, rfl⟩ := mRW h
        exact k _ R mFr.rf
      · refine mGd h (by rw [show S.len (wkAd (gNumbers_degrees S (α 6))) = 5 from (mg_len (i := 67) R (mA13 rfl) (mg_A (t := 67) R rfl rfl)), show gNumbers_chainCount S (α 6) = V.fI 6 8 from (mg_I (i := 6) R (by decide) rfl 8)]) (fun c10 h => ?_)
        refine mIf h (by rw [show S.rI (wkAd (gNumbers_degrees S (α 6))) (((gNumbers_chainCount S (α 6)) - (1 : Int32))).toNatClampNeg = V.rI 67 (((V.fI 6 8) - (1 : Int32))).toNatClampNeg from (mg_rI (i := 67) R (mA13 rfl) (mg_A (t := 67) R rfl rfl) (by rw [show gNumbers_chainCount S (α 6) = V.fI 6 8 from (mg_I (i := 6) R (by decide) rfl 8)]))]) (fun c11 h => ?_) (fun c11 h => ?_)
        · obtain ⟨rfl, rfl⟩ := mRW h
          exact k _ R mFr.rf
        · obtain ⟨v24, V25, hv24, h⟩ := mBW_some h
          refine LX8_addRest hv24 R rfl (fun S25 R25 F25 => ?_)
          refine mIf h Iff.rfl (fun c12 h => ?_) (fun c12 h => ?_)
          · obtain ⟨rfl, rfl⟩ := mRW h
            exact k _ R25 F25
          · refine mGd h (by rw [show S25.len (wkAd (gNumbers_chain S25 (α 6))) = 5 from (mg_len (i := 61) R25 (mAr (by decide)) (mg_A (t := 61) R25 rfl rfl)), show gNumbers_chainCount S25 (α 6) = V25.fI 6 8 from (mg_I (i := 6) R25 (by decide) rfl 8)]) (fun c13 h => ?_)
            obtain ⟨v32, V33, hv32, h⟩ := mBW_some h
            refine LX8_makeFree hv32 R25 (mKA61 (Nat.lt_of_not_le (fun z => c13 (Or.inr z)))) (mg_RA R25 (mRA61 (Nat.lt_of_not_le (fun z => c13 (Or.inr z)))) (mg_A (t := 61) R25 rfl rfl) (by rw [show gNumbers_chainCount S25 (α 6) = V25.fI 6 8 from (mg_I (i := 6) R25 (by decide) rfl 8)])) (fun S33 R33 F33 => ?_)
            obtain ⟨V37, eV37, h⟩ := mLt_some h
            refine mU_F eV37 R33 (by decide) rfl (by rw [show gNumbers_chainCount S33 (α 6) = V33.fI 6 8 from (mg_I (i := 6) R33 (by decide) rfl 8)]) (fun S37 R37 F37 => ?_)
            exact ih.2 _ _ R37 h (fun S1 R1 F1 => k S1 R1 (F25.tr (F33.tr (F37.tr F1))))
set_option maxHeartbeats 4000000 in
set_option maxRecDepth 100000 in
theorem LX8_continueChain {α : Nat → Nat} {F : Nat} {S : wPS} {Ln : Nat → Nat} {V V1 : mV} {v : Unit} {Φ : (Unit → wPS → Prop)} {l0Ax : Nat} (h : mX8_continueChain F V = some (v, V1)) (R : mRel α S Ln V) (el0A : l0Ax = α 6) (k : (∀ S1, mRel α S1 Ln V1 → mFr α S S1 → Φ v S1)) : rX8_continueChain F l0Ax S Φ := by
  have el0A := el0A.symm
  subst el0A
  have ih := LX8_continueChain_go  (α := α) (F := F) (v := v) (Ln := Ln) (Φ := Φ) (V1 := V1) F
  unfold mX8_continueChain mX8_continueChain_s at h
  unfold rX8_continueChain rX8_continueChain_s
  obtain ⟨V38, eV38, h⟩ := mLt_some h
  refine mU_F eV38 R (by decide) rfl rfl (fun S38 R38 F38 => ?_)
  refine mGd h (by rw [show S38.len (wkAd (gNumbers_degrees S38 (α 6))) = 5 from (mg_len (i := 67) R38 (mA13 rfl) (mg_A (t := 67) R38 rfl rfl))]) (fun c14 h => ?_)
  refine mIf h (by rw [show S38.rI (wkAd (gNumbers_degrees S38 (α 6))) ((0 : Int32)).toNatClampNeg = V38.rI 67 ((0 : Int32)).toNatClampNeg from (mg_rI (i := 67) R38 (mA13 rfl) (mg_A (t := 67) R38 rfl rfl) rfl)]) (fun c15 h => ?_) (fun c15 h => ?_)
  · obtain ⟨rfl, rfl⟩ := mRW h
    exact k _ R38 F38
  · refine mGd h (by rw [show S38.len (wkAd (gNumbers_chain S38 (α 6))) = 5 from (mg_len (i := 61) R38 (mAr (by decide)) (mg_A (t := 61) R38 rfl rfl))]) (fun c16 h => ?_)
    obtain ⟨v43, V44, hv43, h⟩ := mBW_some h
    refine LJ7_fill_d0a16 hv43 R38 (mKA61 (Nat.lt_of_not_le (fun z => c16 (Or.inr z)))) (mg_RA R38 (mRA61 (Nat.lt_of_not_le (fun z => c16 (Or.inr z)))) (mg_A (t := 61) R38 rfl rfl) rfl) rfl (fun S44 R44 F44 => ?_)
    exact ih.1 _ _ _ R44 h (fun S1 R1 F1 => k S1 R1 (F38.tr (F44.tr F1)))
def mX10_reachAll_b0 (F : Nat) (rec : Nat → Int32 → Int32 → Int32 → Int32 → mV → Option (Int32 × mV)) (l2I : Int32) (l3I : Int32) (V : mV) : Option (Int32 × mV) :=
  (if l2I ≤ l3I then some (l2I, V) else (if l3I < 0 ∨ 720 ≤ (l3I).toNatClampNeg then none else (mBW (mX10_writePoints F ((V.rI 79 (l3I).toNatClampNeg)) 77 V) fun v3 V4 => (rec 1 (l2I) (l3I) ((1 : Int32)) 0 V4))))
def mX10_reachAll_b1 (F : Nat) (rec : Nat → Int32 → Int32 → Int32 → Int32 → mV → Option (Int32 × mV)) (l2I : Int32) (l3I : Int32) (l4I : Int32) (V : mV) : Option (Int32 × mV) :=
  (if (V.fI 7 11) < l4I then (mLt (l3I + (1 : Int32)) fun x9 => (rec 0 (l2I) (x9) 0 0 V)) else (rec 2 (l2I) (l3I) (l4I) ((0 : Int32)) V))
def mX10_reachAll_b2 (F : Nat) (rec : Nat → Int32 → Int32 → Int32 → Int32 → mV → Option (Int32 × mV)) (l2I : Int32) (l3I : Int32) (l4I : Int32) (l5I : Int32) (V : mV) : Option (Int32 × mV) :=
  (if (V.fI 7 10) ≤ l5I then (mBN (mX10_rankOf F 78 V) fun v11 => (if v11 < 0 ∨ 720 ≤ (v11).toNatClampNeg then none else (if 0 ≤ (V.rI 81 (v11).toNatClampNeg) then (mLt (l4I + (1 : Int32)) fun x18 => (rec 1 (l2I) (l3I) (x18) 0 V)) else (if (720 : Int32) ≤ l2I then (mLt (l4I + (1 : Int32)) fun x20 => (rec 1 (l2I) (l3I) (x20) 0 V)) else (if v11 < 0 ∨ 720 ≤ (v11).toNatClampNeg then none else (mLt (mI V 81 (v11) (l4I)) fun V22 => (if l3I < 0 ∨ 720 ≤ (l3I).toNatClampNeg then none else (if v11 < 0 ∨ 720 ≤ (v11).toNatClampNeg then none else (mLt (mI V22 80 (v11) ((V22.rI 79 (l3I).toNatClampNeg))) fun V25 => (if l2I < 0 ∨ 720 ≤ (l2I).toNatClampNeg then none else (mLt (mI V25 79 (l2I) (v11)) fun V27 => (mLt (l2I + (1 : Int32)) fun x28 => (mLt (l4I + (1 : Int32)) fun x29 => (rec 1 (x28) (l3I) (x29) 0 V27)))))))))))))) else (if l4I < 0 ∨ 5 ≤ (l4I).toNatClampNeg then none else (if l5I < 0 ∨ 6 ≤ (l5I).toNatClampNeg then none else (if (V.rI 77 (l5I).toNatClampNeg) < 0 ∨ 6 ≤ ((V.rI 77 (l5I).toNatClampNeg)).toNatClampNeg then none else (if l5I < 0 ∨ 6 ≤ (l5I).toNatClampNeg then none else (mLt (mI V 78 (l5I) ((V.rI (71 + (l4I).toNatClampNeg) ((V.rI 77 (l5I).toNatClampNeg)).toNatClampNeg))) fun V35 => (mLt (l5I + (1 : Int32)) fun x36 => (rec 2 (l2I) (l3I) (l4I) (x36) V35))))))))
def mX10_reachAll_go (F : Nat) : Nat → Nat → Int32 → Int32 → Int32 → Int32 → mV → Option (Int32 × mV)
  | 0, _, _, _, _, _, _ => none
  | k' + 1, lab, l2I, l3I, l4I, l5I, V => if lab = 0 then mX10_reachAll_b0 F (mX10_reachAll_go F k') l2I l3I V else if lab = 1 then mX10_reachAll_b1 F (mX10_reachAll_go F k') l2I l3I l4I V else if lab = 2 then mX10_reachAll_b2 F (mX10_reachAll_go F k') l2I l3I l4I l5I V else none
def mX10_reachAll_s (F : Nat) (rec : Nat → Int32 → Int32 → Int32 → Int32 → mV → Option (Int32 × mV)) (l1A : Nat) (V : mV) : Option (Int32 × mV) :=
  (mBW (mX10_loadItems F l1A V) fun v37 V38 => (mBW (mJ7_fill_53178 F 81 ((-1 : Int32)) V38) fun v42 V43 => (if (0 : Int32) < 0 ∨ 720 ≤ ((0 : Int32)).toNatClampNeg then none else (mLt (mI V43 79 ((0 : Int32)) ((0 : Int32))) fun V48 => (if (0 : Int32) < 0 ∨ 720 ≤ ((0 : Int32)).toNatClampNeg then none else (mLt (mI V48 81 ((0 : Int32)) ((0 : Int32))) fun V50 => (rec 0 ((1 : Int32)) ((0 : Int32)) 0 0 V50)))))))
def mX10_reachAll (F : Nat) (l1A : Nat) (V : mV) : Option (Int32 × mV) := mX10_reachAll_s F (mX10_reachAll_go F F) l1A V
set_option maxHeartbeats 4000000 in
set_option maxRecDepth 100000 in
theorem LX10_reachAll_go {α : Nat → Nat} {F : Nat} {Ln : Nat → Nat} {v : Int32} {V1 : mV} {Φ : (Int32 → wPS → Prop)} : ∀ k' : Nat, (∀ (l2I : Int32) (l3I : Int32) (S : wPS) (V : mV) , mRel α S Ln V → mX10_reachAll_go F k' 0 l2I l3I 0 0 V = some (v, V1) → (∀ S1, mRel α S1 Ln V1 → mFr α S S1 → Φ v S1) → rX10_reachAll_go F k' 0 (α 7) l2I l3I 0 0 S Φ) ∧ (∀ (l2I : Int32) (l3I : Int32) (l4I : Int32) (S : wPS) (V : mV) , mRel α S Ln V → mX10_reachAll_go F k' 1 l2I l3I l4I 0 V = some (v, V1) → (∀ S1, mRel α S1 Ln V1 → mFr α S S1 → Φ v S1) → rX10_reachAll_go F k' 1 (α 7) l2I l3I l4I 0 S Φ) ∧ (∀ (l2I : Int32) (l3I : Int32) (l4I : Int32) (l5I : Int32) (S : wPS) (V : mV) , mRel α S Ln V → mX10_reachAll_go F k' 2 l2I l3I l4I l5I V = some (v, V1) → (∀ S1, mRel α S1 Ln V1 → mFr α S S1 → Φ v S1) → rX10_reachAll_go F k' 2 (α 7) l2I l3I l4I l5I S Φ) := by
  intro k'
  induction k' with
  | zero => exact ⟨(fun _ _ _ _ _ h _ => by cases h), (fun _ _ _ _ _ _ h _ => by cases h), (fun _ _ _ _ _ _ _ h _ => by cases h)⟩
  | succ k' ih =>
    refine ⟨?_, ?_, ?_⟩
    · intro l2I l3I S V R h k
      rw [mX10_reachAll_go, if_pos rfl] at h
      rw [rX10_reachAll_go, if_pos rfl]
      unfold mX10_reachAll_b0 at h
      unfold rX10_reachAll_b0
      refine mIf h Iff.rfl (fun c1 h => ?_) (fun c1 h => ?_)
      · obtain ⟨rfl, rfl⟩ := mRW h
        exact k _ R mFr.rf
      · refine mGd h (by rw [show S.len (wkAd (gWords_queue S (α 7))) = 720 from (mg_len (i := 79) R (mA13 rfl) (mg_A (t := 79) R rfl rfl))]) (fun c2 h => ?_)
        obtain ⟨v3, V4, hv3, h⟩ := mBW_some h
        refine LX10_writePoints hv3 R rfl rfl (by rw [show S.rI (wkAd (gWords_queue S (α 7))) (l3I).toNatClampNeg = V.rI 79 (l3I).toNatClampNeg from (mg_rI (i := 79) R (mA13 rfl) (mg_A (t := 79) R rfl rfl) rfl)]) (mg_A (t := 77) R rfl rfl) (fun S4 R4 F4 => ?_)
        exact ih.2.1 _ _ _ _ _ R4 h (fun S1 R1 F1 => k S1 R1 (F4.tr F1))
    · intro l2I l3I l4I S V R h k
      rw [mX10_reachAll_go, if_neg (by decide), if_pos rfl] at h
      rw [rX10_reachAll_go, if_neg (by decide), if_pos rfl]
      unfold mX10_reachAll_b1 at h
      unfold rX10_reachAll_b1
      refine mIf h (by rw [show gWords_lastUsed S (α 7) = V.fI 7 11 from (mg_I (i := 7) R (by decide) rfl 11)]) (fun c3 h => ?_) (fun c3 h => ?_)
      · refine mLet h rfl (fun x9 ex9 h => ?_)
        exact ih.1 _ _ _ _ R h (fun S1 R1 F1 => k S1 R1 F1)
      · exact ih.2.2 _ _ _ _ _ _ R h (fun S1 R1 F1 => k S1 R1 F1)
    · intro l2I l3I l4I l5I S V R h k
      rw [mX10_reachAll_go, if_neg (by decide), if_neg (by decide), if_pos rfl] at h
      rw [rX10_reachAll_go, if_neg (by decide), if_neg (by decide), if_pos rfl]
      unfold mX10_reachAll_b2 at h
      unfold rX10_reachAll_b2
      refine mIf h (by rw [show gWords_size S (α 7) = V.fI 7 10 from (mg_I (i := 7) R (by decide) rfl 10)]) (fun c4 h => ?_) (fun c4 h => ?_)
      · obtain ⟨v11, hv11, h⟩ := mBN_some h
        refine LX10_rankOf hv11 R rfl rfl (mg_A (t := 78) R rfl rfl) ?_
        refine mGd h (by rw [show S.len (wkAd (gWords_cameBy S (α 7))) = 720 from (mg_len (i := 81) R (mA13 rfl) (mg_A (t := 81) R rfl rfl))]) (fun c5 h => ?_)
        refine mIf h (by rw [show S.rI (wkAd (gWords_cameBy S (α 7))) (v11).toNatClampNeg = V.rI 81 (v11).toNatClampNeg from (mg_rI (i := 81) R (mA13 rfl) (mg_A (t := 81) R rfl rfl) rfl)]) (fun c6 h => ?_) (fun c6 h => ?_)
        · refine mLet h rfl (fun x18 ex18 h => ?_)
          exact ih.2.1 _ _ _ _ _ R h (fun S1 R1 F1 => k S1 R1 F1)
        · refine mIf h Iff.rfl (fun c7 h => ?_) (fun c7 h => ?_)
          · refine mLet h rfl (fun x20 ex20 h => ?_)
            exact ih.2.1 _ _ _ _ _ R h (fun S1 R1 F1 => k S1 R1 F1)
          · refine mGd h (by rw [show S.len (wkAd (gWords_cameBy S (α 7))) = 720 from (mg_len (i := 81) R (mA13 rfl) (mg_A (t := 81) R rfl rfl))]) (fun c8 h => ?_)
            obtain ⟨V22, eV22, h⟩ := mLt_some h
            refine mU_I eV22 R (mA13 rfl) (mg_A (t := 81) R rfl rfl) rfl rfl (fun S22 R22 F22 => ?_)
            refine mGd h (by rw [show S22.len (wkAd (gWords_queue S22 (α 7))) = 720 from (mg_len (i := 79) R22 (mA13 rfl) (mg_A (t := 79) R22 rfl rfl))]) (fun c9 h => ?_)
            refine mGd h (by rw [show S22.len (wkAd (gWords_aheadOf S22 (α 7))) = 720 from (mg_len (i := 80) R22 (mA13 rfl) (mg_A (t := 80) R22 rfl rfl))]) (fun c10 h => ?_)
            obtain ⟨V25, eV25, h⟩ := mLt_some h
            refine mU_I eV25 R22 (mA13 rfl) (mg_A (t := 80) R22 rfl rfl) rfl (by rw [show S22.rI (wkAd (gWords_queue S22 (α 7))) (l3I).toNatClampNeg = V22.rI 79 (l3I).toNatClampNeg from (mg_rI (i := 79) R22 (mA13 rfl) (mg_A (t := 79) R22 rfl rfl) rfl)]) (fun S25 R25 F25 => ?_)
            refine mGd h (by rw [show S25.len (wkAd (gWords_queue S25 (α 7))) = 720 from (mg_len (i := 79) R25 (mA13 rfl) (mg_A (t := 79) R25 rfl rfl))]) (fun c11 h => ?_)
            obtain ⟨V27, eV27, h⟩ := mLt_some h
            refine mU_I eV27 R25 (mA13 rfl) (mg_A (t := 79) R25 rfl rfl) rfl rfl (fun S27 R27 F27 => ?_)
            refine mLet h rfl (fun x28 ex28 h => ?_)
            refine mLet h rfl (fun x29 ex29 h => ?_)
            exact ih.2.1 _ _ _ _ _ R27 h (fun S1 R1 F1 => k S1 R1 (F22.tr (F25.tr (F27.tr F1))))
      · refine mGd h (by rw [show S.len (wkAd (gWords_leads S (α 7))) = 5 from (mg_len (i := 70) R (mAr (by decide)) (mg_A (t := 70) R rfl rfl))]) (fun c12 h => ?_)
        refine mGd h (by rw [show S.len (wkAd (gWords_points S (α 7))) = 6 from (mg_len (i := 77) R (mA13 rfl) (mg_A (t := 77) R rfl rfl))]) (fun c13 h => ?_)
        refine mGd h (by rw [show S.len (wkAd (S.rA (wkAd (gWords_leads S (α 7))) (l4I).toNatClampNeg)) = 6 from ((mg_len R (mA13 (mKA70 (Nat.lt_of_not_le (fun z => c12 (Or.inr z))))) (mg_RA R (mRA70 (Nat.lt_of_not_le (fun z => c12 (Or.inr z)))) (mg_A (t := 70) R rfl rfl) rfl)).trans (mLA70 (Nat.lt_of_not_le (fun z => c12 (Or.inr z))))), show S.rI (wkAd (gWords_points S (α 7))) (l5I).toNatClampNeg = V.rI 77 (l5I).toNatClampNeg from (mg_rI (i := 77) R (mA13 rfl) (mg_A (t := 77) R rfl rfl) rfl)]) (fun c14 h => ?_)
        refine mGd h (by rw [show S.len (wkAd (gWords_ledPoints S (α 7))) = 6 from (mg_len (i := 78) R (mA13 rfl) (mg_A (t := 78) R rfl rfl))]) (fun c15 h => ?_)
        obtain ⟨V35, eV35, h⟩ := mLt_some h
        refine mU_I eV35 R (mA13 rfl) (mg_A (t := 78) R rfl rfl) rfl (by rw [show S.rI (wkAd (S.rA (wkAd (gWords_leads S (α 7))) (l4I).toNatClampNeg)) ((S.rI (wkAd (gWords_points S (α 7))) (l5I).toNatClampNeg)).toNatClampNeg = V.rI (71 + (l4I).toNatClampNeg) ((V.rI 77 (l5I).toNatClampNeg)).toNatClampNeg from (mg_rI (i := (71 + (l4I).toNatClampNeg)) R (mA13 (mKA70 (Nat.lt_of_not_le (fun z => c12 (Or.inr z))))) (mg_RA R (mRA70 (Nat.lt_of_not_le (fun z => c12 (Or.inr z)))) (mg_A (t := 70) R rfl rfl) rfl) (by rw [show S.rI (wkAd (gWords_points S (α 7))) (l5I).toNatClampNeg = V.rI 77 (l5I).toNatClampNeg from (mg_rI (i := 77) R (mA13 rfl) (mg_A (t := 77) R rfl rfl) rfl)]))]) (fun S35 R35 F35 => ?_)
        refine mLet h rfl (fun x36 ex36 h => ?_)
        exact ih.2.2 _ _ _ _ _ _ R35 h (fun S1 R1 F1 => k S1 R1 (F35.tr F1))
set_option maxHeartbeats 4000000 in
set_option maxRecDepth 100000 in
theorem LX10_reachAll {α : Nat → Nat} {F : Nat} {S : wPS} {Ln : Nat → Nat} {V V1 : mV} {v : Int32} {Φ : (Int32 → wPS → Prop)} {l0Ax : Nat} {l1Ax : Nat} {l1A : Nat} (h : mX10_reachAll F l1A V = some (v, V1)) (R : mRel α S Ln V) (sl1A : mK l1A = 3) (el0A : l0Ax = α 7) (el1A : l1Ax = α l1A) (k : (∀ S1, mRel α S1 Ln V1 → mFr α S S1 → Φ v S1)) : rX10_reachAll F l0Ax l1Ax S Φ := by
  have el0A := el0A.symm
  subst el0A
  have el1A := el1A.symm
  subst el1A
  have ih := LX10_reachAll_go  (α := α) (F := F) (v := v) (Ln := Ln) (Φ := Φ) (V1 := V1) F
  unfold mX10_reachAll mX10_reachAll_s at h
  unfold rX10_reachAll rX10_reachAll_s
  obtain ⟨v37, V38, hv37, h⟩ := mBW_some h
  refine LX10_loadItems hv37 R sl1A rfl rfl (fun S38 R38 F38 => ?_)
  obtain ⟨v42, V43, hv42, h⟩ := mBW_some h
  refine LJ7_fill_53178 hv42 R38 rfl (mg_A (t := 81) R38 rfl rfl) rfl (fun S43 R43 F43 => ?_)
  refine mGd h (by rw [show S43.len (wkAd (gWords_queue S43 (α 7))) = 720 from (mg_len (i := 79) R43 (mA13 rfl) (mg_A (t := 79) R43 rfl rfl))]) (fun c16 h => ?_)
  obtain ⟨V48, eV48, h⟩ := mLt_some h
  refine mU_I eV48 R43 (mA13 rfl) (mg_A (t := 79) R43 rfl rfl) rfl rfl (fun S48 R48 F48 => ?_)
  refine mGd h (by rw [show S48.len (wkAd (gWords_cameBy S48 (α 7))) = 720 from (mg_len (i := 81) R48 (mA13 rfl) (mg_A (t := 81) R48 rfl rfl))]) (fun c17 h => ?_)
  obtain ⟨V50, eV50, h⟩ := mLt_some h
  refine mU_I eV50 R48 (mA13 rfl) (mg_A (t := 81) R48 rfl rfl) rfl rfl (fun S50 R50 F50 => ?_)
  exact ih.1 _ _ _ _ R50 h (fun S1 R1 F1 => k S1 R1 (F38.tr (F43.tr (F48.tr (F50.tr F1)))))
end
