/-! LIFTED BY PROGRAM (lift.py): X6_wonByFirst, X7_writePairing, X7_writeNodes, X7_leadsOn, X7_lowerAll. -/
section
def mX6_wonByFirst_b0 (F : Nat) (rc : Int32 → Int32 → mV → Option Int32) (rec : Nat → Int32 → Int32 → Int32 → Int32 → mV → Option Int32) (l1I : Int32) (l2I : Int32) (l4I : Int32) (s0I : Int32) (V : mV) : Option Int32 :=
  (if s0I = 0 then (if l4I = 0 then some (l1I) else some ((0 : Int32))) else (mBN (mX6_drawnTo F (s0I) (((1 : Int32) - l4I)) (l1I) V) fun v2 => (mBN (rc ((l1I &&& (v2 ^^^ (-1 : Int32)))) ((l2I + (1 : Int32))) V) fun v7 => (if l4I = 0 then some (v7) else some ((v7 ||| v2))))))
def mX6_wonByFirst_go (F : Nat) (rc : Int32 → Int32 → mV → Option Int32) : Nat → Nat → Int32 → Int32 → Int32 → Int32 → mV → Option Int32
  | 0, _, _, _, _, _, _ => none
  | k' + 1, lab, l1I, l2I, l4I, s0I, V => if lab = 0 then mX6_wonByFirst_b0 F rc (mX6_wonByFirst_go F rc k') l1I l2I l4I s0I V else none
def mX6_wonByFirst_s (F : Nat) (rc : Int32 → Int32 → mV → Option Int32) (rec : Nat → Int32 → Int32 → Int32 → Int32 → mV → Option Int32) (l1I : Int32) (l2I : Int32) (V : mV) : Option Int32 :=
  (if l1I = 0 then some ((0 : Int32)) else (if l2I ≤ (8 : Int32) then (mBN (mX6_greatestWeight F (l1I) V) fun v16 => (mLt (v16 - v16 / (2 : Int32) * (2 : Int32)) fun x21 => (mBN (mX6_withWeight F (l1I) (v16) V) fun v22 => (mBN (mX6_drawnTo F (v22) (x21) (l1I) V) fun v27 => (mLt (l1I &&& (v27 ^^^ (-1 : Int32))) fun x32 => (mBN (rc (x32) ((l2I + (1 : Int32))) V) fun v33 => (if x21 = 0 then (rec 0 (l1I) (l2I) (x21) ((x32 &&& (v33 ^^^ (-1 : Int32)))) V) else (rec 0 (l1I) (l2I) (x21) (v33) V)))))))) else some ((0 : Int32))))
def mX6_wonByFirst_a (F : Nat) (rc : Int32 → Int32 → mV → Option Int32) (l1I : Int32) (l2I : Int32) (V : mV) : Option Int32 := mX6_wonByFirst_s F rc (mX6_wonByFirst_go F rc F) l1I l2I V
def mX6_wonByFirst (F : Nat) : Nat → Int32 → Int32 → mV → Option Int32
  | 0, _, _, _ => none
  | j + 1, l1I, l2I, V => mX6_wonByFirst_a F (mX6_wonByFirst F j) l1I l2I V
set_option maxHeartbeats 4000000 in
set_option maxRecDepth 100000 in
theorem LX6_wonByFirst_go {α : Nat → Nat} {rc0 : Nat → Int32 → Int32 → wPS → (Int32 → wPS → Prop) → Prop} {rc : Int32 → Int32 → mV → Option Int32} (hrc : ∀ {S : wPS} {Ln : Nat → Nat} {V : mV} {v : Int32}  {l0Ax : Nat} {l1Ix l1I : Int32} {l2Ix l2I : Int32} {Φ : (Int32 → wPS → Prop)}, rc l1I l2I V = some v → mRel α S Ln V → l0Ax = α 8 → l1Ix = l1I → l2Ix = l2I → (Φ v S) → rc0  l0Ax l1Ix l2Ix S Φ) {F : Nat} {Ln : Nat → Nat} {v : Int32} {Φ : (Int32 → wPS → Prop)} : ∀ k' : Nat, (∀ (l1I : Int32) (l2I : Int32) (l4I : Int32) (s0I : Int32) (S : wPS) (V : mV) , mRel α S Ln V → mX6_wonByFirst_go F rc k' 0 l1I l2I l4I s0I V = some v → (Φ v S) → rX6_wonByFirst_go F rc0 k' 0 (α 8) l1I l2I l4I s0I S Φ) := by
  intro k'
  induction k' with
  | zero => exact (fun _ _ _ _ _ _ _ h _ => by cases h)
  | succ k' ih =>
    intro l1I l2I l4I s0I S V R h k
    rw [mX6_wonByFirst_go, if_pos rfl] at h
    rw [rX6_wonByFirst_go, if_pos rfl]
    unfold mX6_wonByFirst_b0 at h
    unfold rX6_wonByFirst_b0
    refine mIf h Iff.rfl (fun c1 h => ?_) (fun c1 h => ?_)
    · refine mIf h Iff.rfl (fun c2 h => ?_) (fun c2 h => ?_)
      · cases h
        exact k
      · cases h
        exact k
    · obtain ⟨v2, hv2, h⟩ := mBN_some h
      refine LX6_drawnTo hv2 R rfl rfl rfl rfl ?_
      obtain ⟨v7, hv7, h⟩ := mBN_some h
      refine hrc hv7 R rfl rfl rfl ?_
      refine mIf h Iff.rfl (fun c3 h => ?_) (fun c3 h => ?_)
      · cases h
        exact k
      · cases h
        exact k
set_option maxHeartbeats 4000000 in
set_option maxRecDepth 100000 in
theorem LX6_wonByFirst_a {α : Nat → Nat} {F : Nat} {S : wPS} {Ln : Nat → Nat} {V : mV} {v : Int32} {Φ : (Int32 → wPS → Prop)} {l0Ax : Nat} {l1Ix l1I : Int32} {l2Ix l2I : Int32} {rc0 : Nat → Int32 → Int32 → wPS → (Int32 → wPS → Prop) → Prop} {rc : Int32 → Int32 → mV → Option Int32} (hrc : ∀ {S : wPS} {Ln : Nat → Nat} {V : mV} {v : Int32}  {l0Ax : Nat} {l1Ix l1I : Int32} {l2Ix l2I : Int32} {Φ : (Int32 → wPS → Prop)}, rc l1I l2I V = some v → mRel α S Ln V → l0Ax = α 8 → l1Ix = l1I → l2Ix = l2I → (Φ v S) → rc0  l0Ax l1Ix l2Ix S Φ) (h : mX6_wonByFirst_a F rc l1I l2I V = some v) (R : mRel α S Ln V) (el0A : l0Ax = α 8) (el1I : l1Ix = l1I) (el2I : l2Ix = l2I) (k : (Φ v S)) : rX6_wonByFirst_a F rc0 l0Ax l1Ix l2Ix S Φ := by
  have el0A := el0A.symm
  subst el0A
  have el1I := el1I.symm
  subst el1I
  have el2I := el2I.symm
  subst el2I
  have ih := LX6_wonByFirst_go  (α := α) (F := F) (v := v) (Ln := Ln) (Φ := Φ) (rc0 := rc0) (rc := rc) @hrc F
  unfold mX6_wonByFirst_a mX6_wonByFirst_s at h
  unfold rX6_wonByFirst_a rX6_wonByFirst_s
  refine mIf h Iff.rfl (fun c4 h => ?_) (fun c4 h => ?_)
  · cases h
    exact k
  · refine mIf h Iff.rfl (fun c5 h => ?_) (fun c5 h => ?_)
    · obtain ⟨v16, hv16, h⟩ := mBN_some h
      refine LX6_greatestWeight hv16 R rfl rfl ?_
      refine mLet h rfl (fun x21 ex21 h => ?_)
      obtain ⟨v22, hv22, h⟩ := mBN_some h
      refine LX6_withWeight hv22 R rfl rfl rfl ?_
      obtain ⟨v27, hv27, h⟩ := mBN_some h
      refine LX6_drawnTo hv27 R rfl rfl rfl rfl ?_
      refine mLet h rfl (fun x32 ex32 h => ?_)
      obtain ⟨v33, hv33, h⟩ := mBN_some h
      refine hrc hv33 R rfl rfl rfl ?_
      refine mIf h Iff.rfl (fun c6 h => ?_) (fun c6 h => ?_)
      · exact ih _ _ _ _ _ _ R h k
      · exact ih _ _ _ _ _ _ R h k
    · cases h
      exact k
theorem LX6_wonByFirst_d {α : Nat → Nat} {F : Nat} : ∀ (j : Nat) {S : wPS} {Ln : Nat → Nat} {V : mV} {v : Int32} {Φ : (Int32 → wPS → Prop)} {l0Ax : Nat} {l1Ix l1I : Int32} {l2Ix l2I : Int32}, mX6_wonByFirst F j l1I l2I V = some v → mRel α S Ln V → l0Ax = α 8 → l1Ix = l1I → l2Ix = l2I → (Φ v S) → rX6_wonByFirst F j l0Ax l1Ix l2Ix S Φ := by
  intro j
  induction j with
  | zero => intro _ _ _ _ _ _ _ _ _ _ h; cases h
  | succ j ih =>
    intro _ _ _ _ _ _ _ _ _ _ h R a0 a1 a2 k
    exact LX6_wonByFirst_a (rc := mX6_wonByFirst F j) (hrc := fun h => ih h) h R a0 a1 a2 k
theorem LX6_wonByFirst {α : Nat → Nat} {F j : Nat} {S : wPS} {Ln : Nat → Nat} {V : mV} {v : Int32} {Φ : (Int32 → wPS → Prop)} {l0Ax : Nat} {l1Ix l1I : Int32} {l2Ix l2I : Int32} (h : mX6_wonByFirst F j l1I l2I V = some v) (R : mRel α S Ln V) (el0A : l0Ax = α 8) (el1I : l1Ix = l1I) (el2I : l2Ix = l2I) (k : (Φ v S)) : rX6_wonByFirst F j l0Ax l1Ix l2Ix S Φ := LX6_wonByFirst_d j h R el0A el1I el2I k
def mX7_writePairing_b0 (F : Nat) (rec : Nat → (Nat → Nat) → Int32 → Nat → Int32 → Int32 → mV → Option (Unit × (Nat → Nat) × mV)) (Ln : Nat → Nat) (l1I : Int32) (l2A : Nat) (l3I : Int32) (V : mV) : Option (Unit × (Nat → Nat) × mV) :=
  (if l1I ≤ l3I then (mLt (((1 : Int32) <<< (l1I &&& 31)) - (1 : Int32)) fun x2 => (rec 1 Ln (l1I) l2A (x2) ((0 : Int32)) V)) else (mBA (mX9_add F Ln l2A (l3I) V) fun v3 L4 V4 => (mLt (l3I + (1 : Int32)) fun x8 => (rec 0 L4 (l1I) l2A (x8) 0 V4))))
def mX7_writePairing_b1 (F : Nat) (rec : Nat → (Nat → Nat) → Int32 → Nat → Int32 → Int32 → mV → Option (Unit × (Nat → Nat) × mV)) (Ln : Nat → Nat) (l1I : Int32) (l2A : Nat) (l3I : Int32) (l4I : Int32) (V : mV) : Option (Unit × (Nat → Nat) × mV) :=
  (if l1I ≤ l4I then some ((), Ln, V) else (mBN (mX11_has F (l3I) (l4I)) fun v10 => (if v10 = 0 then (mLt (l4I + (1 : Int32)) fun x16 => (rec 1 Ln (l1I) l2A (l3I) (x16) V)) else (mBN (mX7_partnerOf F (l4I) (l3I) (l1I) V) fun v17 => (mBW (mX9_set F Ln l2A (l4I) (v17) V) fun v22 V23 => (mBW (mX9_set F Ln l2A (v17) (l4I) V23) fun v27 V28 => (mLt (l3I &&& ((((1 : Int32) <<< (l4I &&& 31)) ||| ((1 : Int32) <<< (v17 &&& 31))) ^^^ (-1 : Int32))) fun x32 => (mLt (l4I + (1 : Int32)) fun x33 => (rec 1 Ln (l1I) l2A (x32) (x33) V28)))))))))
def mX7_writePairing_go (F : Nat) : Nat → Nat → (Nat → Nat) → Int32 → Nat → Int32 → Int32 → mV → Option (Unit × (Nat → Nat) × mV)
  | 0, _, _, _, _, _, _, _ => none
  | k' + 1, lab, Ln, l1I, l2A, l3I, l4I, V => if lab = 0 then mX7_writePairing_b0 F (mX7_writePairing_go F k') Ln l1I l2A l3I V else if lab = 1 then mX7_writePairing_b1 F (mX7_writePairing_go F k') Ln l1I l2A l3I l4I V else none
def mX7_writePairing_s (F : Nat) (rec : Nat → (Nat → Nat) → Int32 → Nat → Int32 → Int32 → mV → Option (Unit × (Nat → Nat) × mV)) (Ln : Nat → Nat) (l1I : Int32) (l2A : Nat) (V : mV) : Option (Unit × (Nat → Nat) × mV) :=
  (rec 0 Ln (l1I) l2A ((0 : Int32)) 0 V)
def mX7_writePairing (F : Nat) (Ln : Nat → Nat) (l1I : Int32) (l2A : Nat) (V : mV) : Option (Unit × (Nat → Nat) × mV) := mX7_writePairing_s F (mX7_writePairing_go F F) Ln l1I l2A V
set_option maxHeartbeats 4000000 in
set_option maxRecDepth 100000 in
theorem MX7_writePairing_go {F : Nat} {v : Unit} {Ln1 : Nat → Nat} {V1 : mV} : ∀ k' : Nat, (∀ (l1I : Int32) (l2A : Nat) (l3I : Int32) (Ln : Nat → Nat) (V : mV), mX7_writePairing_go F k' 0 Ln l1I l2A l3I 0 V = some (v, Ln1, V1) → mP Ln1 ≤ mP Ln) ∧ (∀ (l1I : Int32) (l2A : Nat) (l3I : Int32) (l4I : Int32) (Ln : Nat → Nat) (V : mV), mX7_writePairing_go F k' 1 Ln l1I l2A l3I l4I V = some (v, Ln1, V1) → mP Ln1 ≤ mP Ln) := by
  intro k'
  induction k' with
  | zero => exact ⟨(fun _ _ _ _ _ h => by cases h), (fun _ _ _ _ _ _ h => by cases h)⟩
  | succ k' ihM =>
    refine ⟨?_, ?_⟩
    · intro l1I l2A l3I Ln V h
      rw [mX7_writePairing_go, if_pos rfl] at h
      unfold mX7_writePairing_b0 at h
      rcases mIf_some h with ⟨_, h⟩ | ⟨_, h⟩
      · obtain ⟨_, _, h⟩ := mLt_some h
        exact ihM.2 _ _ _ _ _ _ h
      · obtain ⟨_, _, _, z1, h⟩ := mBA_some h
        refine Nat.le_trans ?_ (MX9_add z1)
        obtain ⟨_, _, h⟩ := mLt_some h
        exact ihM.1 _ _ _ _ _ h
    · intro l1I l2A l3I l4I Ln V h
      rw [mX7_writePairing_go, if_neg (by decide), if_pos rfl] at h
      unfold mX7_writePairing_b1 at h
      rcases mIf_some h with ⟨_, h⟩ | ⟨_, h⟩
      · cases h
        exact Nat.le_refl _
      · obtain ⟨_, _, h⟩ := mBN_some h
        rcases mIf_some h with ⟨_, h⟩ | ⟨_, h⟩
        · obtain ⟨_, _, h⟩ := mLt_some h
          exact ihM.2 _ _ _ _ _ _ h
        · obtain ⟨_, _, h⟩ := mBN_some h
          obtain ⟨_, _, _, h⟩ := mBW_some h
          obtain ⟨_, _, _, h⟩ := mBW_some h
          obtain ⟨_, _, h⟩ := mLt_some h
          obtain ⟨_, _, h⟩ := mLt_some h
          exact ihM.2 _ _ _ _ _ _ h
set_option maxHeartbeats 4000000 in
set_option maxRecDepth 100000 in
theorem MX7_writePairing {F : Nat} {Ln Ln1 : Nat → Nat} {V V1 : mV} {v : Unit} {l1I : Int32} {l2A : Nat} (h : mX7_writePairing F Ln l1I l2A V = some (v, Ln1, V1)) : mP Ln1 ≤ mP Ln := by
  have ihM := MX7_writePairing_go (F := F) (v := v) (Ln1 := Ln1) (V1 := V1) F
  unfold mX7_writePairing mX7_writePairing_s at h
  exact ihM.1 _ _ _ _ _ h
set_option maxHeartbeats 4000000 in
set_option maxRecDepth 100000 in
theorem LX7_writePairing_go {α : Nat → Nat} {k0 n0 : Nat} {F : Nat} {v : Unit} {Ln1 : Nat → Nat} {V1 : mV} {Φ : (Unit → wPS → Prop)} : ∀ k' : Nat, (∀ (l1I : Int32) (l2A : Nat) (l3I : Int32) (S : wPS) (V : mV) (Ln : Nat → Nat) (c s : Nat), mRel α S Ln V → mK l2A = 9 → mX7_writePairing_go F k' 0 Ln l1I l2A l3I 0 V = some (v, Ln1, V1) → c + (mP Ln - mP Ln1) / 16 ≤ k0 → s + (mP Ln - mP Ln1) ≤ n0 → (∀ S1, mRel α S1 Ln1 V1 → mFr α S S1 → Φ v S1) → rX7_writePairing_go F k0 n0 k' 0 c s (α 2) l1I (α l2A) l3I 0 S Φ) ∧ (∀ (l1I : Int32) (l2A : Nat) (l3I : Int32) (l4I : Int32) (S : wPS) (V : mV) (Ln : Nat → Nat) (c s : Nat), mRel α S Ln V → mK l2A = 9 → mX7_writePairing_go F k' 1 Ln l1I l2A l3I l4I V = some (v, Ln1, V1) → c + (mP Ln - mP Ln1) / 16 ≤ k0 → s + (mP Ln - mP Ln1) ≤ n0 → (∀ S1, mRel α S1 Ln1 V1 → mFr α S S1 → Φ v S1) → rX7_writePairing_go F k0 n0 k' 1 c s (α 2) l1I (α l2A) l3I l4I S Φ) := by
  intro k'
  induction k' with
  | zero => exact ⟨(fun _ _ _ _ _ _ _ _ _ _ h _ _ _ => by cases h), (fun _ _ _ _ _ _ _ _ _ _ _ h _ _ _ => by cases h)⟩
  | succ k' ih =>
    have ihM := MX7_writePairing_go (F := F) (v := v) (Ln1 := Ln1) (V1 := V1) k'
    refine ⟨?_, ?_⟩
    · intro l1I l2A l3I S V Ln c s R sl2A h hk hn k
      rw [mX7_writePairing_go, if_pos rfl] at h
      rw [rX7_writePairing_go, if_pos rfl]
      unfold mX7_writePairing_b0 at h
      unfold rX7_writePairing_b0
      refine mIf h Iff.rfl (fun c2 h => ?_) (fun c2 h => ?_)
      · refine mLet h rfl (fun x2 ex2 h => ?_)
        exact ih.2 _ _ _ _ _ _ _ _ _ R sl2A h (by omega) (by omega) (fun S1 R1 F1 => k S1 R1 F1)
      · obtain ⟨v3, L4, V4, hv3, h⟩ := mBA_some h
        have mv3 : mP L4 ≤ mP Ln := MX9_add hv3
        have qv3 : mP Ln1 ≤ mP L4 := by
          obtain ⟨_, _, h⟩ := mLt_some h
          exact ihM.1 _ _ _ _ _ h
        refine ⟨(mP Ln - mP L4) / 16, mP Ln - mP L4, by omega, by omega, ?_⟩
        refine LX9_add hv3 R sl2A rfl rfl (by omega) (by omega) (fun S4 R4 F4 => ?_)
        refine mLet h rfl (fun x8 ex8 h => ?_)
        exact ih.1 _ _ _ _ _ _ _ _ R4 sl2A h (by omega) (by omega) (fun S1 R1 F1 => k S1 R1 (F4.tr F1))
    · intro l1I l2A l3I l4I S V Ln c s R sl2A h hk hn k
      rw [mX7_writePairing_go, if_neg (by decide), if_pos rfl] at h
      rw [rX7_writePairing_go, if_neg (by decide), if_pos rfl]
      unfold mX7_writePairing_b1 at h
      unfold rX7_writePairing_b1
      refine mIf h Iff.rfl (fun c3 h => ?_) (fun c3 h => ?_)
      · obtain ⟨rfl, rfl, rfl⟩ := mRA3 h
        exact k _ R mFr.rf
      · obtain ⟨v10, hv10, h⟩ := mBN_some h
        refine LX11_has hv10 rfl rfl ?_
        refine mIf h Iff.rfl (fun c4 h => ?_) (fun c4 h => ?_)
        · refine mLet h rfl (fun x16 ex16 h => ?_)
          exact ih.2 _ _ _ _ _ _ _ _ _ R sl2A h (by omega) (by omega) (fun S1 R1 F1 => k S1 R1 F1)
        · obtain ⟨v17, hv17, h⟩ := mBN_some h
          refine LX7_partnerOf hv17 R rfl rfl rfl rfl ?_
          obtain ⟨v22, V23, hv22, h⟩ := mBW_some h
          refine LX9_set hv22 R sl2A rfl rfl rfl (fun S23 R23 F23 => ?_)
          obtain ⟨v27, V28, hv27, h⟩ := mBW_some h
          refine LX9_set hv27 R23 sl2A rfl rfl rfl (fun S28 R28 F28 => ?_)
          refine mLet h rfl (fun x32 ex32 h => ?_)
          refine mLet h rfl (fun x33 ex33 h => ?_)
          exact ih.2 _ _ _ _ _ _ _ _ _ R28 sl2A h (by omega) (by omega) (fun S1 R1 F1 => k S1 R1 (F23.tr (F28.tr F1)))
set_option maxHeartbeats 4000000 in
set_option maxRecDepth 100000 in
theorem LX7_writePairing {α : Nat → Nat} {F : Nat} {S : wPS} {Ln Ln1 : Nat → Nat} {V V1 : mV} {v : Unit} {Φ : (Unit → wPS → Prop)} {l0Ax : Nat} {l1Ix l1I : Int32} {l2Ax : Nat} {l2A : Nat} {k0 n0 : Nat} (h : mX7_writePairing F Ln l1I l2A V = some (v, Ln1, V1)) (R : mRel α S Ln V) (sl2A : mK l2A = 9) (el0A : l0Ax = α 2) (el1I : l1Ix = l1I) (el2A : l2Ax = α l2A) (hk : (mP Ln - mP Ln1) / 16 ≤ k0) (hn : mP Ln - mP Ln1 ≤ n0) (k : (∀ S1, mRel α S1 Ln1 V1 → mFr α S S1 → Φ v S1)) : rX7_writePairing F k0 n0 l0Ax l1Ix l2Ax S Φ := by
  have el0A := el0A.symm
  subst el0A
  have el1I := el1I.symm
  subst el1I
  have el2A := el2A.symm
  subst el2A
  have ih := LX7_writePairing_go  (α := α) (F := F) (v := v) (k0 := k0) (n0 := n0) (Ln1 := Ln1) (Φ := Φ) (V1 := V1) F
  have ihM := MX7_writePairing_go (F := F) (v := v) (Ln1 := Ln1) (V1 := V1) F
  unfold mX7_writePairing mX7_writePairing_s at h
  unfold rX7_writePairing rX7_writePairing_s
  exact ih.1 _ _ _ _ _ _ _ _ R sl2A h (by omega) (by omega) (fun S1 R1 F1 => k S1 R1 F1)
def mX7_writeNodes_b0 (F : Nat) (rec : Nat → (Nat → Nat) → Int32 → Nat → Int32 → mV → Option (Unit × (Nat → Nat) × mV)) (Ln : Nat → Nat) (l1I : Int32) (l2A : Nat) (l3I : Int32) (V : mV) : Option (Unit × (Nat → Nat) × mV) :=
  (if l1I ≤ l3I then some ((), Ln, V) else (mBN (mX7_letterOf F (l1I) (l3I) V) fun v2 => (if v2 = (97 : Int32) then (mBA (mX9_add F Ln l2A (l3I) V) fun v9 L10 V10 => (mLt (l3I + (1 : Int32)) fun x14 => (rec 0 L10 (l1I) l2A (x14) V10))) else (mLt (l3I + (1 : Int32)) fun x8 => (rec 0 Ln (l1I) l2A (x8) V)))))
def mX7_writeNodes_go (F : Nat) : Nat → Nat → (Nat → Nat) → Int32 → Nat → Int32 → mV → Option (Unit × (Nat → Nat) × mV)
  | 0, _, _, _, _, _, _ => none
  | k' + 1, lab, Ln, l1I, l2A, l3I, V => if lab = 0 then mX7_writeNodes_b0 F (mX7_writeNodes_go F k') Ln l1I l2A l3I V else none
def mX7_writeNodes_s (F : Nat) (rec : Nat → (Nat → Nat) → Int32 → Nat → Int32 → mV → Option (Unit × (Nat → Nat) × mV)) (Ln : Nat → Nat) (l1I : Int32) (l2A : Nat) (V : mV) : Option (Unit × (Nat → Nat) × mV) :=
  (rec 0 Ln (l1I) l2A ((0 : Int32)) V)
def mX7_writeNodes (F : Nat) (Ln : Nat → Nat) (l1I : Int32) (l2A : Nat) (V : mV) : Option (Unit × (Nat → Nat) × mV) := mX7_writeNodes_s F (mX7_writeNodes_go F F) Ln l1I l2A V
set_option maxHeartbeats 4000000 in
set_option maxRecDepth 100000 in
theorem MX7_writeNodes_go {F : Nat} {v : Unit} {Ln1 : Nat → Nat} {V1 : mV} : ∀ k' : Nat, (∀ (l1I : Int32) (l2A : Nat) (l3I : Int32) (Ln : Nat → Nat) (V : mV), mX7_writeNodes_go F k' 0 Ln l1I l2A l3I V = some (v, Ln1, V1) → mP Ln1 ≤ mP Ln) := by
  intro k'
  induction k' with
  | zero => exact (fun _ _ _ _ _ h => by cases h)
  | succ k' ihM =>
    skip
    intro l1I l2A l3I Ln V h
    rw [mX7_writeNodes_go, if_pos rfl] at h
    unfold mX7_writeNodes_b0 at h
    rcases mIf_some h with ⟨_, h⟩ | ⟨_, h⟩
    · cases h
      exact Nat.le_refl _
    · obtain ⟨_, _, h⟩ := mBN_some h
      rcases mIf_some h with ⟨_, h⟩ | ⟨_, h⟩
      · obtain ⟨_, _, _, z1, h⟩ := mBA_some h
        refine Nat.le_trans ?_ (MX9_add z1)
        obtain ⟨_, _, h⟩ := mLt_some h
        exact ihM _ _ _ _ _ h
      · obtain ⟨_, _, h⟩ := mLt_some h
        exact ihM _ _ _ _ _ h
set_option maxHeartbeats 4000000 in
set_option maxRecDepth 100000 in
theorem MX7_writeNodes {F : Nat} {Ln Ln1 : Nat → Nat} {V V1 : mV} {v : Unit} {l1I : Int32} {l2A : Nat} (h : mX7_writeNodes F Ln l1I l2A V = some (v, Ln1, V1)) : mP Ln1 ≤ mP Ln := by
  have ihM := MX7_writeNodes_go (F := F) (v := v) (Ln1 := Ln1) (V1 := V1) F
  unfold mX7_writeNodes mX7_writeNodes_s at h
  exact ihM _ _ _ _ _ h
set_option maxHeartbeats 4000000 in
set_option maxRecDepth 100000 in
theorem LX7_writeNodes_go {α : Nat → Nat} {k0 n0 : Nat} {F : Nat} {v : Unit} {Ln1 : Nat → Nat} {V1 : mV} {Φ : (Unit → wPS → Prop)} : ∀ k' : Nat, (∀ (l1I : Int32) (l2A : Nat) (l3I : Int32) (S : wPS) (V : mV) (Ln : Nat → Nat) (c s : Nat), mRel α S Ln V → mK l2A = 9 → mX7_writeNodes_go F k' 0 Ln l1I l2A l3I V = some (v, Ln1, V1) → c + (mP Ln - mP Ln1) / 16 ≤ k0 → s + (mP Ln - mP Ln1) ≤ n0 → (∀ S1, mRel α S1 Ln1 V1 → mFr α S S1 → Φ v S1) → rX7_writeNodes_go F k0 n0 k' 0 c s (α 2) l1I (α l2A) l3I S Φ) := by
  intro k'
  induction k' with
  | zero => exact (fun _ _ _ _ _ _ _ _ _ _ h _ _ _ => by cases h)
  | succ k' ih =>
    have ihM := MX7_writeNodes_go (F := F) (v := v) (Ln1 := Ln1) (V1 := V1) k'
    intro l1I l2A l3I S V Ln c s R sl2A h hk hn k
    rw [mX7_writeNodes_go, if_pos rfl] at h
    rw [rX7_writeNodes_go, if_pos rfl]
    unfold mX7_writeNodes_b0 at h
    unfold rX7_writeNodes_b0
    refine mIf h Iff.rfl (fun c2 h => ?_) (fun c2 h => ?_)
    · obtain ⟨rfl, rfl, rfl⟩ := mRA3 h
      exact k _ R mFr.rf
    · obtain ⟨v2, hv2, h⟩ := mBN_some h
      refine LX7_letterOf hv2 R rfl rfl rfl ?_
      refine mIf h Iff.rfl (fun c3 h => ?_) (fun c3 h => ?_)
      · obtain ⟨v9, L10, V10, hv9, h⟩ := mBA_some h
        have mv9 : mP L10 ≤ mP Ln := MX9_add hv9
        have qv9 : mP Ln1 ≤ mP L10 := by
          obtain ⟨_, _, h⟩ := mLt_some h
          exact ihM _ _ _ _ _ h
        refine ⟨(mP Ln - mP L10) / 16, mP Ln - mP L10, by omega, by omega, ?_⟩
        refine LX9_add hv9 R sl2A rfl rfl (by omega) (by omega) (fun S10 R10 F10 => ?_)
        refine mLet h rfl (fun x14 ex14 h => ?_)
        exact ih _ _ _ _ _ _ _ _ R10 sl2A h (by omega) (by omega) (fun S1 R1 F1 => k S1 R1 (F10.tr F1))
      · refine mLet h rfl (fun x8 ex8 h => ?_)
        exact ih _ _ _ _ _ _ _ _ R sl2A h (by omega) (by omega) (fun S1 R1 F1 => k S1 R1 F1)
set_option maxHeartbeats 4000000 in
set_option maxRecDepth 100000 in
theorem LX7_writeNodes {α : Nat → Nat} {F : Nat} {S : wPS} {Ln Ln1 : Nat → Nat} {V V1 : mV} {v : Unit} {Φ : (Unit → wPS → Prop)} {l0Ax : Nat} {l1Ix l1I : Int32} {l2Ax : Nat} {l2A : Nat} {k0 n0 : Nat} (h : mX7_writeNodes F Ln l1I l2A V = some (v, Ln1, V1)) (R : mRel α S Ln V) (sl2A : mK l2A = 9) (el0A : l0Ax = α 2) (el1I : l1Ix = l1I) (el2A : l2Ax = α l2A) (hk : (mP Ln - mP Ln1) / 16 ≤ k0) (hn : mP Ln - mP Ln1 ≤ n0) (k : (∀ S1, mRel α S1 Ln1 V1 → mFr α S S1 → Φ v S1)) : rX7_writeNodes F k0 n0 l0Ax l1Ix l2Ax S Φ := by
  have el0A := el0A.symm
  subst el0A
  have el1I := el1I.symm
  subst el1I
  have el2A := el2A.symm
  subst el2A
  have ih := LX7_writeNodes_go  (α := α) (F := F) (v := v) (k0 := k0) (n0 := n0) (Ln1 := Ln1) (Φ := Φ) (V1 := V1) F
  have ihM := MX7_writeNodes_go (F := F) (v := v) (Ln1 := Ln1) (V1 := V1) F
  unfold mX7_writeNodes mX7_writeNodes_s at h
  unfold rX7_writeNodes rX7_writeNodes_s
  exact ih _ _ _ _ _ _ _ _ R sl2A h (by omega) (by omega) (fun S1 R1 F1 => k S1 R1 F1)
def mX7_leadsOn_b0 (F : Nat) (rec : Nat → Int32 → Int32 → Int32 → Int32 → Int32 → Int32 → Int32 → mV → Option (Int32 × mV)) (l1I : Int32) (l2I : Int32) (l3I : Int32) (l4I : Int32) (l5I : Int32) (V : mV) : Option (Int32 × mV) :=
  (if (V.fI 2 8) ≤ l5I then (mBN (mX11_has F ((V.fI 2 10)) (l2I)) fun v2 => (if v2 = 0 then some ((0 : Int32), V) else (rec 2 (l1I) 0 0 0 (l2I) ((0 : Int32)) 0 V))) else (if l4I = 0 then (mBN (mX11_has F ((V.fI 2 10)) (l2I)) fun v9 => (if v9 = 0 then some ((0 : Int32), V) else (rec 2 (l1I) 0 0 0 (l2I) ((0 : Int32)) 0 V))) else (mLt (V.fI 2 10) fun x15 => (rec 1 (l1I) (l2I) (l3I) 0 (l5I) (x15) (l3I) V))))
def mX7_leadsOn_b1 (F : Nat) (rec : Nat → Int32 → Int32 → Int32 → Int32 → Int32 → Int32 → Int32 → mV → Option (Int32 × mV)) (l1I : Int32) (l2I : Int32) (l3I : Int32) (l5I : Int32) (l6I : Int32) (l7I : Int32) (V : mV) : Option (Int32 × mV) :=
  (if (V.fI 2 9) ≤ l7I then (if l6I = (V.fI 2 10) then (mLt (l5I + (1 : Int32)) fun x18 => (rec 0 (l1I) (l2I) (l3I) ((0 : Int32)) (x18) 0 0 V)) else (mLt (l5I + (1 : Int32)) fun x19 => (rec 0 (l1I) (l2I) (l3I) ((1 : Int32)) (x19) 0 0 V))) else (mBW (mX7_reachBy F (l7I) V) fun v20 V21 => (mLt (l7I + (1 : Int32)) fun x25 => (rec 1 (l1I) (l2I) (l3I) 0 (l5I) (l6I) (x25) V21))))
def mX7_leadsOn_b2 (F : Nat) (rec : Nat → Int32 → Int32 → Int32 → Int32 → Int32 → Int32 → Int32 → mV → Option (Int32 × mV)) (l1I : Int32) (l5I : Int32) (l6I : Int32) (V : mV) : Option (Int32 × mV) :=
  (if (V.fI 2 8) ≤ l6I then some ((1 : Int32), V) else (if l5I = l1I then some ((1 : Int32), V) else (mBW (mX7_goBack F (l5I) V) fun v28 V29 => (mLt (l6I + (1 : Int32)) fun x33 => (rec 2 (l1I) 0 0 0 (v28) (x33) 0 V29)))))
def mX7_leadsOn_go (F : Nat) : Nat → Nat → Int32 → Int32 → Int32 → Int32 → Int32 → Int32 → Int32 → mV → Option (Int32 × mV)
  | 0, _, _, _, _, _, _, _, _, _ => none
  | k' + 1, lab, l1I, l2I, l3I, l4I, l5I, l6I, l7I, V => if lab = 0 then mX7_leadsOn_b0 F (mX7_leadsOn_go F k') l1I l2I l3I l4I l5I V else if lab = 1 then mX7_leadsOn_b1 F (mX7_leadsOn_go F k') l1I l2I l3I l5I l6I l7I V else if lab = 2 then mX7_leadsOn_b2 F (mX7_leadsOn_go F k') l1I l5I l6I V else none
def mX7_leadsOn_s (F : Nat) (rec : Nat → Int32 → Int32 → Int32 → Int32 → Int32 → Int32 → Int32 → mV → Option (Int32 × mV)) (l1I : Int32) (l2I : Int32) (l3I : Int32) (V : mV) : Option (Int32 × mV) :=
  (mLt (mF V 2 10 (((1 : Int32) <<< (l1I &&& 31)))) fun V34 => (rec 0 (l1I) (l2I) (l3I) ((1 : Int32)) ((0 : Int32)) 0 0 V34))
def mX7_leadsOn (F : Nat) (l1I : Int32) (l2I : Int32) (l3I : Int32) (V : mV) : Option (Int32 × mV) := mX7_leadsOn_s F (mX7_leadsOn_go F F) l1I l2I l3I V
set_option maxHeartbeats 4000000 in
set_option maxRecDepth 100000 in
theorem LX7_leadsOn_go {α : Nat → Nat} {F : Nat} {Ln : Nat → Nat} {v : Int32} {V1 : mV} {Φ : (Int32 → wPS → Prop)} : ∀ k' : Nat, (∀ (l1I : Int32) (l2I : Int32) (l3I : Int32) (l4I : Int32) (l5I : Int32) (S : wPS) (V : mV) , mRel α S Ln V → mX7_leadsOn_go F k' 0 l1I l2I l3I l4I l5I 0 0 V = some (v, V1) → (∀ S1, mRel α S1 Ln V1 → mFr α S S1 → Φ v S1) → rX7_leadsOn_go F k' 0 (α 2) l1I l2I l3I l4I l5I 0 0 S Φ) ∧ (∀ (l1I : Int32) (l2I : Int32) (l3I : Int32) (l5I : Int32) (l6I : Int32) (l7I : Int32) (S : wPS) (V : mV) , mRel α S Ln V → mX7_leadsOn_go F k' 1 l1I l2I l3I 0 l5I l6I l7I V = some (v, V1) → (∀ S1, mRel α S1 Ln V1 → mFr α S S1 → Φ v S1) → rX7_leadsOn_go F k' 1 (α 2) l1I l2I l3I 0 l5I l6I l7I S Φ) ∧ (∀ (l1I : Int32) (l5I : Int32) (l6I : Int32) (S : wPS) (V : mV) , mRel α S Ln V → mX7_leadsOn_go F k' 2 l1I 0 0 0 l5I l6I 0 V = some (v, V1) → (∀ S1, mRel α S1 Ln V1 → mFr α S S1 → Φ v S1) → rX7_leadsOn_go F k' 2 (α 2) l1I 0 0 0 l5I l6I 0 S Φ) := by
  intro k'
  induction k' with
  | zero => exact ⟨(fun _ _ _ _ _ _ _ _ h _ => by cases h), (fun _ _ _ _ _ _ _ _ _ h _ => by cases h), (fun _ _ _ _ _ _ h _ => by cases h)⟩
  | succ k' ih =>
    refine ⟨?_, ?_, ?_⟩
    · intro l1I l2I l3I l4I l5I S V R h k
      rw [mX7_leadsOn_go, if_pos rfl] at h
      rw [rX7_leadsOn_go, if_pos rfl]
      unfold mX7_leadsOn_b0 at h
      unfold rX7_leadsOn_b0
      refine mIf h (by rw [show gNetworks_nodeCount S (α 2) = V.fI 2 8 from (mg_I (i := 2) R (by decide) rfl 8)]) (fun c1 h => ?_) (fun c1 h => ?_)
      · obtain ⟨v2, hv2, h⟩ := mBN_some h
        refine LX11_has hv2 (by rw [show gNetworks_reached S (α 2) = V.fI 2 10 from (mg_I (i := 2) R (by decide) rfl 10)]) rfl ?_
        refine mIf h Iff.rfl (fun c2 h => ?_) (fun c2 h => ?_)
        · obtain ⟨rfl, rfl⟩ := mRW h
          exact k _ R mFr.rf
        · exact ih.2.2 _ _ _ _ _ R h (fun S1 R1 F1 => k S1 R1 F1)
      · refine mIf h Iff.rfl (fun c3 h => ?_) (fun c3 h => ?_)
        · obtain ⟨v9, hv9, h⟩ := mBN_some h
          refine LX11_has hv9 (by rw [show gNetworks_reached S (α 2) = V.fI 2 10 from (mg_I (i := 2) R (by decide) rfl 10)]) rfl ?_
          refine mIf h Iff.rfl (fun c4 h => ?_) (fun c4 h => ?_)
          · obtain ⟨rfl, rfl⟩ := mRW h
            exact k _ R mFr.rf
          · exact ih.2.2 _ _ _ _ _ R h (fun S1 R1 F1 => k S1 R1 F1)
        · refine mLet h (by rw [show gNetworks_reached S (α 2) = V.fI 2 10 from (mg_I (i := 2) R (by decide) rfl 10)]) (fun x15 ex15 h => ?_)
          exact ih.2.1 _ _ _ _ _ _ _ _ R h (fun S1 R1 F1 => k S1 R1 F1)
    · intro l1I l2I l3I l5I l6I l7I S V R h k
      rw [mX7_leadsOn_go, if_neg (by decide), if_pos rfl] at h
      rw [rX7_leadsOn_go, if_neg (by decide), if_pos rfl]
      unfold mX7_leadsOn_b1 at h
      unfold rX7_leadsOn_b1
      refine mIf h (by rw [show gNetworks_itemCount S (α 2) = V.fI 2 9 from (mg_I (i := 2) R (by decide) rfl 9)]) (fun c5 h => ?_) (fun c5 h => ?_)
      · refine mIf h (by rw [show gNetworks_reached S (α 2) = V.fI 2 10 from (mg_I (i := 2) R (by decide) rfl 10)]) (fun c6 h => ?_) (fun c6 h => ?_)
        · refine mLet h rfl (fun x18 ex18 h => ?_)
          exact ih.1 _ _ _ _ _ _ _ R h (fun S1 R1 F1 => k S1 R1 F1)
        · refine mLet h rfl (fun x19 ex19 h => ?_)
          exact ih.1 _ _ _ _ _ _ _ R h (fun S1 R1 F1 => k S1 R1 F1)
      · obtain ⟨v20, V21, hv20, h⟩ := mBW_some h
        refine LX7_reachBy hv20 R rfl rfl (fun S21 R21 F21 => ?_)
        refine mLet h rfl (fun x25 ex25 h => ?_)
        exact ih.2.1 _ _ _ _ _ _ _ _ R21 h (fun S1 R1 F1 => k S1 R1 (F21.tr F1))
    · intro l1I l5I l6I S V R h k
      rw [mX7_leadsOn_go, if_neg (by decide), if_neg (by decide), if_pos rfl] at h
      rw [rX7_leadsOn_go, if_neg (by decide), if_neg (by decide), if_pos rfl]
      unfold mX7_leadsOn_b2 at h
      unfold rX7_leadsOn_b2
      refine mIf h (by rw [show gNetworks_nodeCount S (α 2) = V.fI 2 8 from (mg_I (i := 2) R (by decide) rfl 8)]) (fun c7 h => ?_) (fun c7 h => ?_)
      · obtain ⟨rfl, rfl⟩ := mRW h
        exact k _ R mFr.rf
      · refine mIf h Iff.rfl (fun c8 h => ?_) (fun c8 h => ?_)
        · obtain ⟨rfl, rfl⟩ := mRW h
          exact k _ R mFr.rf
        · obtain ⟨v28, V29, hv28, h⟩ := mBW_some h
          refine LX7_goBack hv28 R rfl rfl (fun S29 R29 F29 => ?_)
          refine mLet h rfl (fun x33 ex33 h => ?_)
          exact ih.2.2 _ _ _ _ _ R29 h (fun S1 R1 F1 => k S1 R1 (F29.tr F1))
set_option maxHeartbeats 4000000 in
set_option maxRecDepth 100000 in
theorem LX7_leadsOn {α : Nat → Nat} {F : Nat} {S : wPS} {Ln : Nat → Nat} {V V1 : mV} {v : Int32} {Φ : (Int32 → wPS → Prop)} {l0Ax : Nat} {l1Ix l1I : Int32} {l2Ix l2I : Int32} {l3Ix l3I : Int32} (h : mX7_leadsOn F l1I l2I l3I V = some (v, V1)) (R : mRel α S Ln V) (el0A : l0Ax = α 2) (el1I : l1Ix = l1I) (el2I : l2Ix = l2I) (el3I : l3Ix = l3I) (k : (∀ S1, mRel α S1 Ln V1 → mFr α S S1 → Φ v S1)) : rX7_leadsOn F l0Ax l1Ix l2Ix l3Ix S Φ := by
  have el0A := el0A.symm
  subst el0A
  have el1I := el1I.symm
  subst el1I
  have el2I := el2I.symm
  subst el2I
  have el3I := el3I.symm
  subst el3I
  have ih := LX7_leadsOn_go  (α := α) (F := F) (v := v) (Ln := Ln) (Φ := Φ) (V1 := V1) F
  unfold mX7_leadsOn mX7_leadsOn_s at h
  unfold rX7_leadsOn rX7_leadsOn_s
  obtain ⟨V34, eV34, h⟩ := mLt_some h
  refine mU_F eV34 R (by decide) rfl rfl (fun S34 R34 F34 => ?_)
  exact ih.1 _ _ _ _ _ _ _ R34 h (fun S1 R1 F1 => k S1 R1 (F34.tr F1))
def mX7_lowerAll_b0 (F : Nat) (rec : Nat → Int32 → Int32 → Int32 → mV → Option (Unit × mV)) (l1I : Int32) (V : mV) : Option (Unit × mV) :=
  (if (V.fI 2 9) ≤ l1I then some ((), V) else (if l1I < 0 ∨ 10 ≤ (l1I).toNatClampNeg then none else (mLt (V.rI 24 (l1I).toNatClampNeg) fun x3 => (rec 1 (l1I) (x3) ((0 : Int32)) V))))
def mX7_lowerAll_b1 (F : Nat) (rec : Nat → Int32 → Int32 → Int32 → mV → Option (Unit × mV)) (l1I : Int32) (l2I : Int32) (l3I : Int32) (V : mV) : Option (Unit × mV) :=
  (if l2I ≤ l3I then (mLt (l1I + (1 : Int32)) fun x5 => (rec 0 (x5) 0 0 V)) else (if l1I < 0 ∨ 10 ≤ (l1I).toNatClampNeg then none else (if l1I < 0 ∨ 10 ≤ (l1I).toNatClampNeg then none else (mBW (mX7_leadsOn F ((V.rI 21 (l1I).toNatClampNeg)) ((V.rI 22 (l1I).toNatClampNeg)) ((l1I + (1 : Int32))) V) fun v8 V9 => (if v8 = 0 then (mLt (l1I + (1 : Int32)) fun x14 => (rec 0 (x14) 0 0 V9)) else (if l1I < 0 ∨ 10 ≤ (l1I).toNatClampNeg then none else (if l1I < 0 ∨ 10 ≤ (l1I).toNatClampNeg then none else (mLt (mI V9 24 (l1I) (((V9.rI 24 (l1I).toNatClampNeg) - (1 : Int32)))) fun V17 => (mLt (l3I + (1 : Int32)) fun x18 => (rec 1 (l1I) (l2I) (x18) V17))))))))))
def mX7_lowerAll_go (F : Nat) : Nat → Nat → Int32 → Int32 → Int32 → mV → Option (Unit × mV)
  | 0, _, _, _, _, _ => none
  | k' + 1, lab, l1I, l2I, l3I, V => if lab = 0 then mX7_lowerAll_b0 F (mX7_lowerAll_go F k') l1I V else if lab = 1 then mX7_lowerAll_b1 F (mX7_lowerAll_go F k') l1I l2I l3I V else none
def mX7_lowerAll_s (F : Nat) (rec : Nat → Int32 → Int32 → Int32 → mV → Option (Unit × mV)) (V : mV) : Option (Unit × mV) :=
  (rec 0 ((0 : Int32)) 0 0 V)
def mX7_lowerAll (F : Nat) (V : mV) : Option (Unit × mV) := mX7_lowerAll_s F (mX7_lowerAll_go F F) V
set_option maxHeartbeats 4000000 in
set_option maxRecDepth 100000 in
theorem LX7_lowerAll_go {α : Nat → Nat} {F : Nat} {Ln : Nat → Nat} {v : Unit} {V1 : mV} {Φ : (Unit → wPS → Prop)} : ∀ k' : Nat, (∀ (l1I : Int32) (S : wPS) (V : mV) , mRel α S Ln V → mX7_lowerAll_go F k' 0 l1I 0 0 V = some (v, V1) → (∀ S1, mRel α S1 Ln V1 → mFr α S S1 → Φ v S1) → rX7_lowerAll_go F k' 0 (α 2) l1I 0 0 S Φ) ∧ (∀ (l1I : Int32) (l2I : Int32) (l3I : Int32) (S : wPS) (V : mV) , mRel α S Ln V → mX7_lowerAll_go F k' 1 l1I l2I l3I V = some (v, V1) → (∀ S1, mRel α S1 Ln V1 → mFr α S S1 → Φ v S1) → rX7_lowerAll_go F k' 1 (α 2) l1I l2I l3I S Φ) := by
  intro k'
  induction k' with
  | zero => exact ⟨(fun _ _ _ _ h _ => by cases h), (fun _ _ _ _ _ _ h _ => by cases h)⟩
  | succ k' ih =>
    refine ⟨?_, ?_⟩
    · intro l1I S V R h k
      rw [mX7_lowerAll_go, if_pos rfl] at h
      rw [rX7_lowerAll_go, if_pos rfl]
      unfold mX7_lowerAll_b0 at h
      unfold rX7_lowerAll_b0
      refine mIf h (by rw [show gNetworks_itemCount S (α 2) = V.fI 2 9 from (mg_I (i := 2) R (by decide) rfl 9)]) (fun c1 h => ?_) (fun c1 h => ?_)
      · obtain ⟨rfl, rfl⟩ := mRW h
        exact k _ R mFr.rf
      · refine mGd h (by rw [show S.len (wkAd (gNetworks_flow S (α 2))) = 10 from (mg_len (i := 24) R (mA13 rfl) (mg_A (t := 24) R rfl rfl))]) (fun c2 h => ?_)
        refine mLet h (by rw [show S.rI (wkAd (gNetworks_flow S (α 2))) (l1I).toNatClampNeg = V.rI 24 (l1I).toNatClampNeg from (mg_rI (i := 24) R (mA13 rfl) (mg_A (t := 24) R rfl rfl) rfl)]) (fun x3 ex3 h => ?_)
        exact ih.2 _ _ _ _ _ R h (fun S1 R1 F1 => k S1 R1 F1)
    · intro l1I l2I l3I S V R h k
      rw [mX7_lowerAll_go, if_neg (by decide), if_pos rfl] at h
      rw [rX7_lowerAll_go, if_neg (by decide), if_pos rfl]
      unfold mX7_lowerAll_b1 at h
      unfold rX7_lowerAll_b1
      refine mIf h Iff.rfl (fun c3 h => ?_) (fun c3 h => ?_)
      · refine mLet h rfl (fun x5 ex5 h => ?_)
        exact ih.1 _ _ _ R h (fun S1 R1 F1 => k S1 R1 F1)
      · refine mGd h (by rw [show S.len (wkAd (gNetworks_from S (α 2))) = 10 from (mg_len (i := 21) R (mA13 rfl) (mg_A (t := 21) R rfl rfl))]) (fun c4 h => ?_)
        refine mGd h (by rw [show S.len (wkAd (gNetworks_to S (α 2))) = 10 from (mg_len (i := 22) R (mA13 rfl) (mg_A (t := 22) R rfl rfl))]) (fun c5 h => ?_)
        obtain ⟨v8, V9, hv8, h⟩ := mBW_some h
        refine LX7_leadsOn hv8 R rfl (by rw [show S.rI (wkAd (gNetworks_from S (α 2))) (l1I).toNatClampNeg = V.rI 21 (l1I).toNatClampNeg from (mg_rI (i := 21) R (mA13 rfl) (mg_A (t := 21) R rfl rfl) rfl)]) (by rw [show S.rI (wkAd (gNetworks_to S (α 2))) (l1I).toNatClampNeg = V.rI 22 (l1I).toNatClampNeg from (mg_rI (i := 22) R (mA13 rfl) (mg_A (t := 22) R rfl rfl) rfl)]) rfl (fun S9 R9 F9 => ?_)
        refine mIf h Iff.rfl (fun c6 h => ?_) (fun c6 h => ?_)
        · refine mLet h rfl (fun x14 ex14 h => ?_)
          exact ih.1 _ _ _ R9 h (fun S1 R1 F1 => k S1 R1 (F9.tr F1))
        · refine mGd h (by rw [show S9.len (wkAd (gNetworks_flow S9 (α 2))) = 10 from (mg_len (i := 24) R9 (mA13 rfl) (mg_A (t := 24) R9 rfl rfl))]) (fun c7 h => ?_)
          refine mGd h (by rw [show S9.len (wkAd (gNetworks_flow S9 (α 2))) = 10 from (mg_len (i := 24) R9 (mA13 rfl) (mg_A (t := 24) R9 rfl rfl))]) (fun c8 h => ?_)
          obtain ⟨V17, eV17, h⟩ := mLt_some h
          refine mU_I eV17 R9 (mA13 rfl) (mg_A (t := 24) R9 rfl rfl) rfl (by rw [show S9.rI (wkAd (gNetworks_flow S9 (α 2))) (l1I).toNatClampNeg = V9.rI 24 (l1I).toNatClampNeg from (mg_rI (i := 24) R9 (mA13 rfl) (mg_A (t := 24) R9 rfl rfl) rfl)]) (fun S17 R17 F17 => ?_)
          refine mLet h rfl (fun x18 ex18 h => ?_)
          exact ih.2 _ _ _ _ _ R17 h (fun S1 R1 F1 => k S1 R1 (F9.tr (F17.tr F1)))
set_option maxHeartbeats 4000000 in
set_option maxRecDepth 100000 in
theorem LX7_lowerAll {α : Nat → Nat} {F : Nat} {S : wPS} {Ln : Nat → Nat} {V V1 : mV} {v : Unit} {Φ : (Unit → wPS → Prop)} {l0Ax : Nat} (h : mX7_lowerAll F V = some (v, V1)) (R : mRel α S Ln V) (el0A : l0Ax = α 2) (k : (∀ S1, mRel α S1 Ln V1 → mFr α S S1 → Φ v S1)) : rX7_lowerAll F l0Ax S Φ := by
  have el0A := el0A.symm
  subst el0A
  have ih := LX7_lowerAll_go  (α := α) (F := F) (v := v) (Ln := Ln) (Φ := Φ) (V1 := V1) F
  unfold mX7_lowerAll mX7_lowerAll_s at h
  unfold rX7_lowerAll rX7_lowerAll_s
  exact ih.1 _ _ _ R h (fun S1 R1 F1 => k S1 R1 F1)
end
