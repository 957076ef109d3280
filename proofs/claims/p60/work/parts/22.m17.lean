/-! LIFTED BY PROGRAM (lift.py): X1_writeTruths, X1_brokenItem, X1_goThrough, X1_judgeTruths, X1_judgeTree, X2_loadEdges. -/
section
def mX1_writeTruths_b0 (F : Nat) (rec : Nat → (Nat → Nat) → Int32 → Int32 → Nat → Int32 → mV → Option (Unit × (Nat → Nat) × mV)) (Ln : Nat → Nat) (l0I : Int32) (l1I : Int32) (l2A : Nat) (l3I : Int32) (V : mV) : Option (Unit × (Nat → Nat) × mV) :=
  (if l1I ≤ l3I then some ((), Ln, V) else (mBN (mX11_has F (l0I) (((l1I - (1 : Int32)) - l3I))) fun v2 => (if v2 = 0 then (mBA (mX9_add F Ln l2A ((0 : Int32)) V) fun v8 L9 V9 => (mLt (l3I + (1 : Int32)) fun x13 => (rec 0 L9 (l0I) (l1I) l2A (x13) V9))) else (mBA (mX9_add F Ln l2A ((1 : Int32)) V) fun v14 L15 V15 => (mLt (l3I + (1 : Int32)) fun x19 => (rec 0 L15 (l0I) (l1I) l2A (x19) V15))))))
def mX1_writeTruths_go (F : Nat) : Nat → Nat → (Nat → Nat) → Int32 → Int32 → Nat → Int32 → mV → Option (Unit × (Nat → Nat) × mV)
  | 0, _, _, _, _, _, _, _ => none
  | k' + 1, lab, Ln, l0I, l1I, l2A, l3I, V => if lab = 0 then mX1_writeTruths_b0 F (mX1_writeTruths_go F k') Ln l0I l1I l2A l3I V else none
def mX1_writeTruths_s (F : Nat) (rec : Nat → (Nat → Nat) → Int32 → Int32 → Nat → Int32 → mV → Option (Unit × (Nat → Nat) × mV)) (Ln : Nat → Nat) (l0I : Int32) (l1I : Int32) (l2A : Nat) (V : mV) : Option (Unit × (Nat → Nat) × mV) :=
  (rec 0 Ln (l0I) (l1I) l2A ((0 : Int32)) V)
def mX1_writeTruths (F : Nat) (Ln : Nat → Nat) (l0I : Int32) (l1I : Int32) (l2A : Nat) (V : mV) : Option (Unit × (Nat → Nat) × mV) := mX1_writeTruths_s F (mX1_writeTruths_go F F) Ln l0I l1I l2A V
set_option maxHeartbeats 4000000 in
set_option maxRecDepth 100000 in
theorem MX1_writeTruths_go {F : Nat} {v : Unit} {Ln1 : Nat → Nat} {V1 : mV} : ∀ k' : Nat, (∀ (l0I : Int32) (l1I : Int32) (l2A : Nat) (l3I : Int32) (Ln : Nat → Nat) (V : mV), mX1_writeTruths_go F k' 0 Ln l0I l1I l2A l3I V = some (v, Ln1, V1) → mP Ln1 ≤ mP Ln) := by
  intro k'
  induction k' with
  | zero => exact (fun _ _ _ _ _ _ h => by cases h)
  | succ k' ihM =>
    skip
    intro l0I l1I l2A l3I Ln V h
    rw [mX1_writeTruths_go, if_pos rfl] at h
    unfold mX1_writeTruths_b0 at h
    rcases mIf_some h with ⟨_, h⟩ | ⟨_, h⟩
    · cases h
      exact Nat.le_refl _
    · obtain ⟨_, _, h⟩ := mBN_some h
      rcases mIf_some h with ⟨_, h⟩ | ⟨_, h⟩
      · obtain ⟨_, _, _, z1, h⟩ := mBA_some h
        refine Nat.le_trans ?_ (MX9_add z1)
        obtain ⟨_, _, h⟩ := mLt_some h
        exact ihM _ _ _ _ _ _ h
      · obtain ⟨_, _, _, z2, h⟩ := mBA_some h
        refine Nat.le_trans ?_ (MX9_add z2)
        obtain ⟨_, _, h⟩ := mLt_some h
        exact ihM _ _ _ _ _ _ h
set_option maxHeartbeats 4000000 in
set_option maxRecDepth 100000 in
theorem MX1_writeTruths {F : Nat} {Ln Ln1 : Nat → Nat} {V V1 : mV} {v : Unit} {l0I : Int32} {l1I : Int32} {l2A : Nat} (h : mX1_writeTruths F Ln l0I l1I l2A V = some (v, Ln1, V1)) : mP Ln1 ≤ mP Ln := by
  have ihM := MX1_writeTruths_go (F := F) (v := v) (Ln1 := Ln1) (V1 := V1) F
  unfold mX1_writeTruths mX1_writeTruths_s at h
  exact ihM _ _ _ _ _ _ h
set_option maxHeartbeats 4000000 in
set_option maxRecDepth 100000 in
theorem LX1_writeTruths_go {α : Nat → Nat} {k0 n0 : Nat} {F : Nat} {v : Unit} {Ln1 : Nat → Nat} {V1 : mV} {Φ : (Unit → wPS → Prop)} : ∀ k' : Nat, (∀ (l0I : Int32) (l1I : Int32) (l2A : Nat) (l3I : Int32) (S : wPS) (V : mV) (Ln : Nat → Nat) (c s : Nat), mRel α S Ln V → mK l2A = 9 → mX1_writeTruths_go F k' 0 Ln l0I l1I l2A l3I V = some (v, Ln1, V1) → c + (mP Ln - mP Ln1) / 16 ≤ k0 → s + (mP Ln - mP Ln1) ≤ n0 → (∀ S1, mRel α S1 Ln1 V1 → mFr α S S1 → Φ v S1) → rX1_writeTruths_go F k0 n0 k' 0 c s l0I l1I (α l2A) l3I S Φ) := by
  intro k'
  induction k' with
  | zero => exact (fun _ _ _ _ _ _ _ _ _ _ _ h _ _ _ => by cases h)
  | succ k' ih =>
    have ihM := MX1_writeTruths_go (F := F) (v := v) (Ln1 := Ln1) (V1 := V1) k'
    intro l0I l1I l2A l3I S V Ln c s R sl2A h hk hn k
    rw [mX1_writeTruths_go, if_pos rfl] at h
    rw [rX1_writeTruths_go, if_pos rfl]
    unfold mX1_writeTruths_b0 at h
    unfold rX1_writeTruths_b0
    refine mIf h Iff.rfl (fun c3 h => ?_) (fun c3 h => ?_)
    · obtain ⟨rfl, rfl, rfl⟩ := mRA3 h
      exact k _ R mFr.rf
    · obtain ⟨v2, hv2, h⟩ := mBN_some h
      refine LX11_has hv2 rfl rfl ?_
      refine mIf h Iff.rfl (fun c4 h => ?_) (fun c4 h => ?_)
      · obtain ⟨v8, L9, V9, hv8, h⟩ := mBA_some h
        have mv8 : mP L9 ≤ mP Ln := MX9_add hv8
        have qv8 : mP Ln1 ≤ mP L9 := by
          obtain ⟨_, _, h⟩ := mLt_some h
          exact ihM _ _ _ _ _ _ h
        refine ⟨(mP Ln - mP L9) / 16, mP Ln - mP L9, by omega, by omega, ?_⟩
        refine LX9_add hv8 R sl2A rfl rfl (by omega) (by omega) (fun S9 R9 F9 => ?_)
        refine mLet h rfl (fun x13 ex13 h => ?_)
        exact ih _ _ _ _ _ _ _ _ _ R9 sl2A h (by omega) (by omega) (fun S1 R1 F1 => k S1 R1 (F9.tr F1))
      · obtain ⟨v14, L15, V15, hv14, h⟩ := mBA_some h
        have mv14 : mP L15 ≤ mP Ln := MX9_add hv14
        have qv14 : mP Ln1 ≤ mP L15 := by
          obtain ⟨_, _, h⟩ := mLt_some h
          exact ihM _ _ _ _ _ _ h
        refine ⟨(mP Ln - mP L15) / 16, mP Ln - mP L15, by omega, by omega, ?_⟩
        refine LX9_add hv14 R sl2A rfl rfl (by omega) (by omega) (fun S15 R15 F15 => ?_)
        refine mLet h rfl (fun x19 ex19 h => ?_)
        exact ih _ _ _ _ _ _ _ _ _ R15 sl2A h (by omega) (by omega) (fun S1 R1 F1 => k S1 R1 (F15.tr F1))
set_option maxHeartbeats 4000000 in
set_option maxRecDepth 100000 in
theorem LX1_writeTruths {α : Nat → Nat} {F : Nat} {S : wPS} {Ln Ln1 : Nat → Nat} {V V1 : mV} {v : Unit} {Φ : (Unit → wPS → Prop)} {l0Ix l0I : Int32} {l1Ix l1I : Int32} {l2Ax : Nat} {l2A : Nat} {k0 n0 : Nat} (h : mX1_writeTruths F Ln l0I l1I l2A V = some (v, Ln1, V1)) (R : mRel α S Ln V) (sl2A : mK l2A = 9) (el0I : l0Ix = l0I) (el1I : l1Ix = l1I) (el2A : l2Ax = α l2A) (hk : (mP Ln - mP Ln1) / 16 ≤ k0) (hn : mP Ln - mP Ln1 ≤ n0) (k : (∀ S1, mRel α S1 Ln1 V1 → mFr α S S1 → Φ v S1)) : rX1_writeTruths F k0 n0 l0Ix l1Ix l2Ax S Φ := by
  have el0I := el0I.symm
  subst el0I
  have el1I := el1I.symm
  subst el1I
  have el2A := el2A.symm
  subst el2A
  have ih := LX1_writeTruths_go  (α := α) (F := F) (v := v) (k0 := k0) (n0 := n0) (Ln1 := Ln1) (Φ := Φ) (V1 := V1) F
  have ihM := MX1_writeTruths_go (F := F) (v := v) (Ln1 := Ln1) (V1 := V1) F
  unfold mX1_writeTruths mX1_writeTruths_s at h
  unfold rX1_writeTruths rX1_writeTruths_s
  exact ih _ _ _ _ _ _ _ _ _ R sl2A h (by omega) (by omega) (fun S1 R1 F1 => k S1 R1 F1)
def mX1_brokenItem_b0 (F : Nat) (rec : Nat → Nat → Int32 → mV → Option Int32) (l1A : Nat) (l2I : Int32) (V : mV) : Option Int32 :=
  (if (V.fI l1A 6) ≤ l2I then some ((-1 : Int32)) else (mBN (mX1_isBroken F l1A (l2I) V) fun v2 => (if v2 = 0 then (mLt (l2I + (1 : Int32)) fun x8 => (rec 0 l1A (x8) V)) else some (l2I))))
def mX1_brokenItem_go (F : Nat) : Nat → Nat → Nat → Int32 → mV → Option Int32
  | 0, _, _, _, _ => none
  | k' + 1, lab, l1A, l2I, V => if lab = 0 then mX1_brokenItem_b0 F (mX1_brokenItem_go F k') l1A l2I V else none
def mX1_brokenItem_s (F : Nat) (rec : Nat → Nat → Int32 → mV → Option Int32) (l1A : Nat) (V : mV) : Option Int32 :=
  (rec 0 l1A ((0 : Int32)) V)
def mX1_brokenItem (F : Nat) (l1A : Nat) (V : mV) : Option Int32 := mX1_brokenItem_s F (mX1_brokenItem_go F F) l1A V
set_option maxHeartbeats 4000000 in
set_option maxRecDepth 100000 in
theorem LX1_brokenItem_go {α : Nat → Nat} {F : Nat} {Ln : Nat → Nat} {v : Int32} {Φ : (Int32 → wPS → Prop)} : ∀ k' : Nat, (∀ (l1A : Nat) (l2I : Int32) (S : wPS) (V : mV) , mRel α S Ln V → mK l1A = 3 → mX1_brokenItem_go F k' 0 l1A l2I V = some v → (Φ v S) → rX1_brokenItem_go F k' 0 (α 5) (α l1A) l2I S Φ) := by
  intro k'
  induction k' with
  | zero => exact (fun _ _ _ _ _ _ h _ => by cases h)
  | succ k' ih =>
    intro l1A l2I S V R sl1A h k
    rw [mX1_brokenItem_go, if_pos rfl] at h
    rw [rX1_brokenItem_go, if_pos rfl]
    unfold mX1_brokenItem_b0 at h
    unfold rX1_brokenItem_b0
    refine mIf h (by rw [show gEntry_itemCount S (α l1A) = V.fI l1A 6 from (mg_I (i := l1A) R (mO3 sl1A) rfl 6)]) (fun c1 h => ?_) (fun c1 h => ?_)
    · cases h
      exact k
    · obtain ⟨v2, hv2, h⟩ := mBN_some h
      refine LX1_isBroken hv2 R sl1A rfl rfl rfl ?_
      refine mIf h Iff.rfl (fun c2 h => ?_) (fun c2 h => ?_)
      · refine mLet h rfl (fun x8 ex8 h => ?_)
        exact ih _ _ _ _ R sl1A h k
      · cases h
        exact k
set_option maxHeartbeats 4000000 in
set_option maxRecDepth 100000 in
theorem LX1_brokenItem {α : Nat → Nat} {F : Nat} {S : wPS} {Ln : Nat → Nat} {V : mV} {v : Int32} {Φ : (Int32 → wPS → Prop)} {l0Ax : Nat} {l1Ax : Nat} {l1A : Nat} (h : mX1_brokenItem F l1A V = some v) (R : mRel α S Ln V) (sl1A : mK l1A = 3) (el0A : l0Ax = α 5) (el1A : l1Ax = α l1A) (k : (Φ v S)) : rX1_brokenItem F l0Ax l1Ax S Φ := by
  have el0A := el0A.symm
  subst el0A
  have el1A := el1A.symm
  subst el1A
  have ih := LX1_brokenItem_go  (α := α) (F := F) (v := v) (Ln := Ln) (Φ := Φ) F
  unfold mX1_brokenItem mX1_brokenItem_s at h
  unfold rX1_brokenItem rX1_brokenItem_s
  exact ih _ _ _ _ R sl1A h k
def mX1_goThrough_b0 (F : Nat) (rec : Nat → (Nat → Nat) → Nat → Nat → Int32 → Int32 → mV → Option (Unit × (Nat → Nat) × mV)) (Ln : Nat → Nat) (l1A : Nat) (l2A : Nat) (l3I : Int32) (V : mV) : Option (Unit × (Nat → Nat) × mV) :=
  (if (128 : Int32) ≤ l3I then some ((), Ln, V) else (if (V.fI 5 6) = 0 then (mBN (mX1_brokenItem F l1A V) fun v3 => (if 0 ≤ v3 then (rec 1 Ln l1A l2A (l3I) (v3) V) else (mBN (mJ6_bitCount_0f7a4 F ((V.fI 5 5))) fun v9 => (if v9 ≤ (V.fI l1A 8) then (mLt (mF V 5 4 (((V.fI 5 4) + (1 : Int32)))) fun V15 => (mLt (l3I + (1 : Int32)) fun x16 => (rec 0 Ln l1A l2A (x16) 0 V15))) else (rec 1 Ln l1A l2A (l3I) (v3) V))))) else some ((), Ln, V)))
def mX1_goThrough_b1 (F : Nat) (rec : Nat → (Nat → Nat) → Nat → Nat → Int32 → Int32 → mV → Option (Unit × (Nat → Nat) × mV)) (Ln : Nat → Nat) (l1A : Nat) (l2A : Nat) (l3I : Int32) (l4I : Int32) (V : mV) : Option (Unit × (Nat → Nat) × mV) :=
  (mBA (mX9_add F Ln l2A (l4I) V) fun v17 L18 V18 => (if l4I < 0 then (mBW (mX1_derive F (((V18.fI 5 5) * (64 : Int32))) V18) fun v23 V24 => (mBW (mX1_goBack F V24) fun v28 V29 => (mLt (l3I + (1 : Int32)) fun x33 => (rec 0 L18 l1A l2A (x33) 0 V29)))) else (mBN (mX1_codeOf F l1A (l4I) V18) fun v34 => (mBW (mX1_derive F (v34) V18) fun v39 V40 => (mBW (mX1_goBack F V40) fun v44 V45 => (mLt (l3I + (1 : Int32)) fun x49 => (rec 0 L18 l1A l2A (x49) 0 V45)))))))
def mX1_goThrough_go (F : Nat) : Nat → Nat → (Nat → Nat) → Nat → Nat → Int32 → Int32 → mV → Option (Unit × (Nat → Nat) × mV)
  | 0, _, _, _, _, _, _, _ => none
  | k' + 1, lab, Ln, l1A, l2A, l3I, l4I, V => if lab = 0 then mX1_goThrough_b0 F (mX1_goThrough_go F k') Ln l1A l2A l3I V else if lab = 1 then mX1_goThrough_b1 F (mX1_goThrough_go F k') Ln l1A l2A l3I l4I V else none
def mX1_goThrough_s (F : Nat) (rec : Nat → (Nat → Nat) → Nat → Nat → Int32 → Int32 → mV → Option (Unit × (Nat → Nat) × mV)) (Ln : Nat → Nat) (l1A : Nat) (l2A : Nat) (V : mV) : Option (Unit × (Nat → Nat) × mV) :=
  (mBW (mX1_begin F V) fun v50 V51 => (rec 0 Ln l1A l2A ((0 : Int32)) 0 V51))
def mX1_goThrough (F : Nat) (Ln : Nat → Nat) (l1A : Nat) (l2A : Nat) (V : mV) : Option (Unit × (Nat → Nat) × mV) := mX1_goThrough_s F (mX1_goThrough_go F F) Ln l1A l2A V
set_option maxHeartbeats 4000000 in
set_option maxRecDepth 100000 in
theorem MX1_goThrough_go {F : Nat} {v : Unit} {Ln1 : Nat → Nat} {V1 : mV} : ∀ k' : Nat, (∀ (l1A : Nat) (l2A : Nat) (l3I : Int32) (Ln : Nat → Nat) (V : mV), mX1_goThrough_go F k' 0 Ln l1A l2A l3I 0 V = some (v, Ln1, V1) → mP Ln1 ≤ mP Ln) ∧ (∀ (l1A : Nat) (l2A : Nat) (l3I : Int32) (l4I : Int32) (Ln : Nat → Nat) (V : mV), mX1_goThrough_go F k' 1 Ln l1A l2A l3I l4I V = some (v, Ln1, V1) → mP Ln1 ≤ mP Ln) := by
  intro k'
  induction k' with
  | zero => exact ⟨(fun _ _ _ _ _ h => by cases h), (fun _ _ _ _ _ _ h => by cases h)⟩
  | succ k' ihM =>
    refine ⟨?_, ?_⟩
    · intro l1A l2A l3I Ln V h
      rw [mX1_goThrough_go, if_pos rfl] at h
      unfold mX1_goThrough_b0 at h
      rcases mIf_some h with ⟨_, h⟩ | ⟨_, h⟩
      · cases h
        exact Nat.le_refl _
      · rcases mIf_some h with ⟨_, h⟩ | ⟨_, h⟩
        · obtain ⟨_, _, h⟩ := mBN_some h
          rcases mIf_some h with ⟨_, h⟩ | ⟨_, h⟩
          · exact ihM.2 _ _ _ _ _ _ h
          · obtain ⟨_, _, h⟩ := mBN_some h
            rcases mIf_some h with ⟨_, h⟩ | ⟨_, h⟩
            · obtain ⟨_, _, h⟩ := mLt_some h
              obtain ⟨_, _, h⟩ := mLt_some h
              exact ihM.1 _ _ _ _ _ h
            · exact ihM.2 _ _ _ _ _ _ h
        · cases h
          exact Nat.le_refl _
    · intro l1A l2A l3I l4I Ln V h
      rw [mX1_goThrough_go, if_neg (by decide), if_pos rfl] at h
      unfold mX1_goThrough_b1 at h
      obtain ⟨_, _, _, z1, h⟩ := mBA_some h
      refine Nat.le_trans ?_ (MX9_add z1)
      rcases mIf_some h with ⟨_, h⟩ | ⟨_, h⟩
      · obtain ⟨_, _, _, h⟩ := mBW_some h
        obtain ⟨_, _, _, h⟩ := mBW_some h
        obtain ⟨_, _, h⟩ := mLt_some h
        exact ihM.1 _ _ _ _ _ h
      · obtain ⟨_, _, h⟩ := mBN_some h
        obtain ⟨_, _, _, h⟩ := mBW_some h
        obtain ⟨_, _, _, h⟩ := mBW_some h
        obtain ⟨_, _, h⟩ := mLt_some h
        exact ihM.1 _ _ _ _ _ h
set_option maxHeartbeats 4000000 in
set_option maxRecDepth 100000 in
theorem MX1_goThrough {F : Nat} {Ln Ln1 : Nat → Nat} {V V1 : mV} {v : Unit} {l1A : Nat} {l2A : Nat} (h : mX1_goThrough F Ln l1A l2A V = some (v, Ln1, V1)) : mP Ln1 ≤ mP Ln := by
  have ihM := MX1_goThrough_go (F := F) (v := v) (Ln1 := Ln1) (V1 := V1) F
  unfold mX1_goThrough mX1_goThrough_s at h
  obtain ⟨_, _, _, h⟩ := mBW_some h
  exact ihM.1 _ _ _ _ _ h
set_option maxHeartbeats 4000000 in
set_option maxRecDepth 100000 in
theorem LX1_goThrough_go {α : Nat → Nat} {k0 n0 : Nat} {F : Nat} {v : Unit} {Ln1 : Nat → Nat} {V1 : mV} {Φ : (Unit → wPS → Prop)} : ∀ k' : Nat, (∀ (l1A : Nat) (l2A : Nat) (l3I : Int32) (S : wPS) (V : mV) (Ln : Nat → Nat) (c s : Nat), mRel α S Ln V → mK l1A = 3 → mK l2A = 9 → mX1_goThrough_go F k' 0 Ln l1A l2A l3I 0 V = some (v, Ln1, V1) → c + (mP Ln - mP Ln1) / 16 ≤ k0 → s + (mP Ln - mP Ln1) ≤ n0 → (∀ S1, mRel α S1 Ln1 V1 → mFr α S S1 → Φ v S1) → rX1_goThrough_go F k0 n0 k' 0 c s (α 5) (α l1A) (α l2A) l3I 0 S Φ) ∧ (∀ (l1A : Nat) (l2A : Nat) (l3I : Int32) (l4I : Int32) (S : wPS) (V : mV) (Ln : Nat → Nat) (c s : Nat), mRel α S Ln V → mK l1A = 3 → mK l2A = 9 → mX1_goThrough_go F k' 1 Ln l1A l2A l3I l4I V = some (v, Ln1, V1) → c + (mP Ln - mP Ln1) / 16 ≤ k0 → s + (mP Ln - mP Ln1) ≤ n0 → (∀ S1, mRel α S1 Ln1 V1 → mFr α S S1 → Φ v S1) → rX1_goThrough_go F k0 n0 k' 1 c s (α 5) (α l1A) (α l2A) l3I l4I S Φ) := by
  intro k'
  induction k' with
  | zero => exact ⟨(fun _ _ _ _ _ _ _ _ _ _ _ h _ _ _ => by cases h), (fun _ _ _ _ _ _ _ _ _ _ _ _ h _ _ _ => by cases h)⟩
  | succ k' ih =>
    have ihM := MX1_goThrough_go (F := F) (v := v) (Ln1 := Ln1) (V1 := V1) k'
    refine ⟨?_, ?_⟩
    · intro l1A l2A l3I S V Ln c s R sl1A sl2A h hk hn k
      rw [mX1_goThrough_go, if_pos rfl] at h
      rw [rX1_goThrough_go, if_pos rfl]
      unfold mX1_goThrough_b0 at h
      unfold rX1_goThrough_b0
      refine mIf h Iff.rfl (fun c2 h => ?_) (fun c2 h => ?_)
      · obtain ⟨rfl, rfl, rfl⟩ := mRA3 h
        exact k _ R mFr.rf
      · refine mIf h (by rw [show gClauses_isAtEnd S (α 5) = V.fI 5 6 from (mg_I (i := 5) R (by decide) rfl 6)]) (fun c3 h => ?_) (fun c3 h => ?_)
        · obtain ⟨v3, hv3, h⟩ := mBN_some h
          refine LX1_brokenItem hv3 R sl1A rfl rfl ?_
          refine mIf h Iff.rfl (fun c4 h => ?_) (fun c4 h => ?_)
          · exact ih.2 _ _ _ _ _ _ _ _ _ R sl1A sl2A h (by omega) (by omega) (fun S1 R1 F1 => k S1 R1 F1)
          · obtain ⟨v9, hv9, h⟩ := mBN_some h
            refine LJ6_bitCount_0f7a4 hv9 (by rw [show gClauses_ones S (α 5) = V.fI 5 5 from (mg_I (i := 5) R (by decide) rfl 5)]) ?_
            refine mIf h (by rw [show gEntry_boundNow S (α l1A) = V.fI l1A 8 from (mg_I (i := l1A) R (mO3 sl1A) rfl 8)]) (fun c5 h => ?_) (fun c5 h => ?_)
            · obtain ⟨V15, eV15, h⟩ := mLt_some h
              refine mU_F eV15 R (by decide) rfl (by rw [show gClauses_depth S (α 5) = V.fI 5 4 from (mg_I (i := 5) R (by decide) rfl 4)]) (fun S15 R15 F15 => ?_)
              refine mLet h rfl (fun x16 ex16 h => ?_)
              exact ih.1 _ _ _ _ _ _ _ _ R15 sl1A sl2A h (by omega) (by omega) (fun S1 R1 F1 => k S1 R1 (F15.tr F1))
            · exact ih.2 _ _ _ _ _ _ _ _ _ R sl1A sl2A h (by omega) (by omega) (fun S1 R1 F1 => k S1 R1 F1)
        · obtain ⟨rfl, rfl, rfl⟩ := mRA3 h
          exact k _ R mFr.rf
    · intro l1A l2A l3I l4I S V Ln c s R sl1A sl2A h hk hn k
      rw [mX1_goThrough_go, if_neg (by decide), if_pos rfl] at h
      rw [rX1_goThrough_go, if_neg (by decide), if_pos rfl]
      unfold mX1_goThrough_b1 at h
      unfold rX1_goThrough_b1
      obtain ⟨v17, L18, V18, hv17, h⟩ := mBA_some h
      have mv17 : mP L18 ≤ mP Ln := MX9_add hv17
      have qv17 : mP Ln1 ≤ mP L18 := by
        rcases mIf_some h with ⟨_, h⟩ | ⟨_, h⟩
        · obtain ⟨_, _, _, h⟩ := mBW_some h
          obtain ⟨_, _, _, h⟩ := mBW_some h
          obtain ⟨_, _, h⟩ := mLt_some h
          exact ihM.1 _ _ _ _ _ h
        · obtain ⟨_, _, h⟩ := mBN_some h
          obtain ⟨_, _, _, h⟩ := mBW_some h
          obtain ⟨_, _, _, h⟩ := mBW_some h
          obtain ⟨_, _, h⟩ := mLt_some h
          exact ihM.1 _ _ _ _ _ h
      refine ⟨(mP Ln - mP L18) / 16, mP Ln - mP L18, by omega, by omega, ?_⟩
      refine LX9_add hv17 R sl2A rfl rfl (by omega) (by omega) (fun S18 R18 F18 => ?_)
      refine mIf h Iff.rfl (fun c6 h => ?_) (fun c6 h => ?_)
      · obtain ⟨v23, V24, hv23, h⟩ := mBW_some h
        refine LX1_derive hv23 R18 rfl (by rw [show gClauses_ones S18 (α 5) = V18.fI 5 5 from (mg_I (i := 5) R18 (by decide) rfl 5)]) (fun S24 R24 F24 => ?_)
        obtain ⟨v28, V29, hv28, h⟩ := mBW_some h
        refine LX1_goBack hv28 R24 rfl (fun S29 R29 F29 => ?_)
        refine mLet h rfl (fun x33 ex33 h => ?_)
        exact ih.1 _ _ _ _ _ _ _ _ R29 sl1A sl2A h (by omega) (by omega) (fun S1 R1 F1 => k S1 R1 (F18.tr (F24.tr (F29.tr F1))))
      · obtain ⟨v34, hv34, h⟩ := mBN_some h
        refine LX1_codeOf hv34 R18 sl1A rfl rfl ?_
        obtain ⟨v39, V40, hv39, h⟩ := mBW_some h
        refine LX1_derive hv39 R18 rfl rfl (fun S40 R40 F40 => ?_)
        obtain ⟨v44, V45, hv44, h⟩ := mBW_some h
        refine LX1_goBack hv44 R40 rfl (fun S45 R45 F45 => ?_)
        refine mLet h rfl (fun x49 ex49 h => ?_)
        exact ih.1 _ _ _ _ _ _ _ _ R45 sl1A sl2A h (by omega) (by omega) (fun S1 R1 F1 => k S1 R1 (F18.tr (F40.tr (F45.tr F1))))
set_option maxHeartbeats 4000000 in
set_option maxRecDepth 100000 in
theorem LX1_goThrough {α : Nat → Nat} {F : Nat} {S : wPS} {Ln Ln1 : Nat → Nat} {V V1 : mV} {v : Unit} {Φ : (Unit → wPS → Prop)} {l0Ax : Nat} {l1Ax : Nat} {l1A : Nat} {l2Ax : Nat} {l2A : Nat} {k0 n0 : Nat} (h : mX1_goThrough F Ln l1A l2A V = some (v, Ln1, V1)) (R : mRel α S Ln V) (sl1A : mK l1A = 3) (sl2A : mK l2A = 9) (el0A : l0Ax = α 5) (el1A : l1Ax = α l1A) (el2A : l2Ax = α l2A) (hk : (mP Ln - mP Ln1) / 16 ≤ k0) (hn : mP Ln - mP Ln1 ≤ n0) (k : (∀ S1, mRel α S1 Ln1 V1 → mFr α S S1 → Φ v S1)) : rX1_goThrough F k0 n0 l0Ax l1Ax l2Ax S Φ := by
  have el0A := el0A.symm
  subst el0A
  have el1A := el1A.symm
  subst el1A
  have el2A := el2A.symm
  subst el2A
  have ih := LX1_goThrough_go  (α := α) (F := F) (v := v) (k0 := k0) (n0 := n0) (Ln1 := Ln1) (Φ := Φ) (V1 := V1) F
  have ihM := MX1_goThrough_go (F := F) (v := v) (Ln1 := Ln1) (V1 := V1) F
  unfold mX1_goThrough mX1_goThrough_s at h
  unfold rX1_goThrough rX1_goThrough_s
  obtain ⟨v50, V51, hv50, h⟩ := mBW_some h
  refine LX1_begin hv50 R rfl (fun S51 R51 F51 => ?_)
  exact ih.1 _ _ _ _ _ _ _ _ R51 sl1A sl2A h (by omega) (by omega) (fun S1 R1 F1 => k S1 R1 (F51.tr F1))
def mX1_judgeTruths_b0 (F : Nat) (rec : Nat → (Nat → Nat) → Nat → Nat → Int32 → mV → Option (Int32 × mV)) (Ln : Nat → Nat) (l1A : Nat) (l2A : Nat) (l3I : Int32) (V : mV) : Option (Int32 × mV) :=
  (if (V.fI 5 4) ≤ l3I then (mBN (mJ6_bitCount_0f7a4 F ((V.fI 5 5))) fun v2 => (if v2 ≤ (V.fI l1A 8) then (mBN (mX1_brokenItem F l1A V) fun v8 => (if 0 ≤ v8 then some ((3 : Int32), V) else some ((0 : Int32), V))) else some ((2 : Int32), V))) else (mBN (mX9_at F Ln l2A (l3I) V) fun v14 => (mLt (mF V 5 5 (((V.fI 5 5) ||| (v14 <<< (l3I &&& 31))))) fun V19 => (mLt (l3I + (1 : Int32)) fun x20 => (rec 0 Ln l1A l2A (x20) V19)))))
def mX1_judgeTruths_go (F : Nat) : Nat → Nat → (Nat → Nat) → Nat → Nat → Int32 → mV → Option (Int32 × mV)
  | 0, _, _, _, _, _, _ => none
  | k' + 1, lab, Ln, l1A, l2A, l3I, V => if lab = 0 then mX1_judgeTruths_b0 F (mX1_judgeTruths_go F k') Ln l1A l2A l3I V else none
def mX1_judgeTruths_s (F : Nat) (rec : Nat → (Nat → Nat) → Nat → Nat → Int32 → mV → Option (Int32 × mV)) (Ln : Nat → Nat) (l1A : Nat) (l2A : Nat) (V : mV) : Option (Int32 × mV) :=
  (if (V.fI l2A 1) = (V.fI l1A 1) then (mBN (mX9_liesWithin F Ln l2A ((0 : Int32)) ((0 : Int32)) ((1 : Int32)) V) fun v22 => (if v22 = 0 then some ((1 : Int32), V) else (mLt (mF V 5 4 ((V.fI l1A 1))) fun V28 => (mLt (mF V28 5 5 ((0 : Int32))) fun V29 => (rec 0 Ln l1A l2A ((0 : Int32)) V29))))) else some ((1 : Int32), V))
def mX1_judgeTruths (F : Nat) (Ln : Nat → Nat) (l1A : Nat) (l2A : Nat) (V : mV) : Option (Int32 × mV) := mX1_judgeTruths_s F (mX1_judgeTruths_go F F) Ln l1A l2A V
set_option maxHeartbeats 4000000 in
set_option maxRecDepth 100000 in
theorem LX1_judgeTruths_go {α : Nat → Nat} {F : Nat} {v : Int32} {V1 : mV} {Φ : (Int32 → wPS → Prop)} : ∀ k' : Nat, (∀ (l1A : Nat) (l2A : Nat) (l3I : Int32) (S : wPS) (V : mV) (Ln : Nat → Nat) , mRel α S Ln V → mK l1A = 3 → mK l2A = 9 → mX1_judgeTruths_go F k' 0 Ln l1A l2A l3I V = some (v, V1) → (∀ S1, mRel α S1 Ln V1 → mFr α S S1 → Φ v S1) → rX1_judgeTruths_go F k' 0 (α 5) (α l1A) (α l2A) l3I S Φ) := by
  intro k'
  induction k' with
  | zero => exact (fun _ _ _ _ _ _ _ _ _ h _ => by cases h)
  | succ k' ih =>
    intro l1A l2A l3I S V Ln R sl1A sl2A h k
    rw [mX1_judgeTruths_go, if_pos rfl] at h
    rw [rX1_judgeTruths_go, if_pos rfl]
    unfold mX1_judgeTruths_b0 at h
    unfold rX1_judgeTruths_b0
    refine mIf h (by rw [show gClauses_depth S (α 5) = V.fI 5 4 from (mg_I (i := 5) R (by decide) rfl 4)]) (fun c1 h => ?_) (fun c1 h => ?_)
    · obtain ⟨v2, hv2, h⟩ := mBN_some h
      refine LJ6_bitCount_0f7a4 hv2 (by rw [show gClauses_ones S (α 5) = V.fI 5 5 from (mg_I (i := 5) R (by decide) rfl 5)]) ?_
      refine mIf h (by rw [show gEntry_boundNow S (α l1A) = V.fI l1A 8 from (mg_I (i := l1A) R (mO3 sl1A) rfl 8)]) (fun c2 h => ?_) (fun c2 h => ?_)
      · obtain ⟨v8, hv8, h⟩ := mBN_some h
        refine LX1_brokenItem hv8 R sl1A rfl rfl ?_
        refine mIf h Iff.rfl (fun c3 h => ?_) (fun c3 h => ?_)
        · obtain ⟨rfl, rfl⟩ := mRW h
          exact k _ R mFr.rf
        · obtain ⟨rfl, rfl⟩ := mRW h
          exact k _ R mFr.rf
      · obtain ⟨rfl, rfl⟩ := mRW h
        exact k _ R mFr.rf
    · obtain ⟨v14, hv14, h⟩ := mBN_some h
      refine LX9_at hv14 R sl2A rfl rfl ?_
      obtain ⟨V19, eV19, h⟩ := mLt_some h
      refine mU_F eV19 R (by decide) rfl (by rw [show gClauses_ones S (α 5) = V.fI 5 5 from (mg_I (i := 5) R (by decide) rfl 5)]) (fun S19 R19 F19 => ?_)
      refine mLet h rfl (fun x20 ex20 h => ?_)
      exact ih _ _ _ _ _ _ R19 sl1A sl2A h (fun S1 R1 F1 => k S1 R1 (F19.tr F1))
set_option maxHeartbeats 4000000 in
set_option maxRecDepth 100000 in
theorem LX1_judgeTruths {α : Nat → Nat} {F : Nat} {S : wPS} {Ln : Nat → Nat} {V V1 : mV} {v : Int32} {Φ : (Int32 → wPS → Prop)} {l0Ax : Nat} {l1Ax : Nat} {l1A : Nat} {l2Ax : Nat} {l2A : Nat} (h : mX1_judgeTruths F Ln l1A l2A V = some (v, V1)) (R : mRel α S Ln V) (sl1A : mK l1A = 3) (sl2A : mK l2A = 9) (el0A : l0Ax = α 5) (el1A : l1Ax = α l1A) (el2A : l2Ax = α l2A) (k : (∀ S1, mRel α S1 Ln V1 → mFr α S S1 → Φ v S1)) : rX1_judgeTruths F l0Ax l1Ax l2Ax S Φ := by
  have el0A := el0A.symm
  subst el0A
  have el1A := el1A.symm
  subst el1A
  have el2A := el2A.symm
  subst el2A
  have ih := LX1_judgeTruths_go  (α := α) (F := F) (v := v) (Φ := Φ) (V1 := V1) F
  unfold mX1_judgeTruths mX1_judgeTruths_s at h
  unfold rX1_judgeTruths rX1_judgeTruths_s
  refine mIf h (by rw [show gEntry_size S (α l1A) = V.fI l1A 1 from (mg_I (i := l1A) R (mO3 sl1A) rfl 1), show gRow_count S (α l2A) = V.fI l2A 1 from (mg_I (i := l2A) R (mO9 sl2A) rfl 1)]) (fun c4 h => ?_) (fun c4 h => ?_)
  · obtain ⟨v22, hv22, h⟩ := mBN_some h
    refine LX9_liesWithin hv22 R sl2A rfl rfl rfl rfl ?_
    refine mIf h Iff.rfl (fun c5 h => ?_) (fun c5 h => ?_)
    · obtain ⟨rfl, rfl⟩ := mRW h
      exact k _ R mFr.rf
    · obtain ⟨V28, eV28, h⟩ := mLt_some h
      refine mU_F eV28 R (by decide) rfl (by rw [show gEntry_size S (α l1A) = V.fI l1A 1 from (mg_I (i := l1A) R (mO3 sl1A) rfl 1)]) (fun S28 R28 F28 => ?_)
      obtain ⟨V29, eV29, h⟩ := mLt_some h
      refine mU_F eV29 R28 (by decide) rfl rfl (fun S29 R29 F29 => ?_)
      exact ih _ _ _ _ _ _ R29 sl1A sl2A h (fun S1 R1 F1 => k S1 R1 (F28.tr (F29.tr F1)))
  · obtain ⟨rfl, rfl⟩ := mRW h
    exact k _ R mFr.rf
def mX1_judgeTree_b0 (F : Nat) (rec : Nat → (Nat → Nat) → Nat → Nat → Int32 → Int32 → mV → Option (Int32 × mV)) (Ln : Nat → Nat) (l1A : Nat) (l2A : Nat) (l3I : Int32) (l4I : Int32) (V : mV) : Option (Int32 × mV) :=
  (if (128 : Int32) ≤ l4I then (if l3I = (V.fI l2A 1) then some ((0 : Int32), V) else some ((3 : Int32), V)) else (if (V.fI 5 6) = 0 then (if (V.fI l2A 1) ≤ l3I then (if (V.fI l1A 1) ≤ (V.fI 5 4) then some ((2 : Int32), V) else (mLt (mF V 5 4 (((V.fI 5 4) + (1 : Int32)))) fun V7 => (mLt (l4I + (1 : Int32)) fun x8 => (rec 0 Ln l1A l2A (l3I) (x8) V7)))) else (mBN (mX9_at F Ln l2A (l3I) V) fun v9 => (mBN (mX1_isLeaf F l1A (v9) V) fun v14 => (if v14 = 0 then (if (V.fI l1A 1) ≤ (V.fI 5 4) then some ((2 : Int32), V) else (mLt (mF V 5 4 (((V.fI 5 4) + (1 : Int32)))) fun V21 => (mLt (l4I + (1 : Int32)) fun x22 => (rec 0 Ln l1A l2A (l3I) (x22) V21)))) else (mLt (l3I + (1 : Int32)) fun x23 => (mBW (mX1_goBack F V) fun v24 V25 => (mLt (l4I + (1 : Int32)) fun x29 => (rec 0 Ln l1A l2A (x23) (x29) V25)))))))) else (if l3I = (V.fI l2A 1) then some ((0 : Int32), V) else some ((3 : Int32), V))))
def mX1_judgeTree_go (F : Nat) : Nat → Nat → (Nat → Nat) → Nat → Nat → Int32 → Int32 → mV → Option (Int32 × mV)
  | 0, _, _, _, _, _, _, _ => none
  | k' + 1, lab, Ln, l1A, l2A, l3I, l4I, V => if lab = 0 then mX1_judgeTree_b0 F (mX1_judgeTree_go F k') Ln l1A l2A l3I l4I V else none
def mX1_judgeTree_s (F : Nat) (rec : Nat → (Nat → Nat) → Nat → Nat → Int32 → Int32 → mV → Option (Int32 × mV)) (Ln : Nat → Nat) (l1A : Nat) (l2A : Nat) (V : mV) : Option (Int32 × mV) :=
  (mBN (mX9_liesWithin F Ln l2A ((0 : Int32)) ((-1 : Int32)) (((V.fI l1A 6) - (1 : Int32))) V) fun v30 => (if v30 = 0 then some ((1 : Int32), V) else (mBW (mX1_begin F V) fun v36 V37 => (rec 0 Ln l1A l2A ((0 : Int32)) ((0 : Int32)) V37))))
def mX1_judgeTree (F : Nat) (Ln : Nat → Nat) (l1A : Nat) (l2A : Nat) (V : mV) : Option (Int32 × mV) := mX1_judgeTree_s F (mX1_judgeTree_go F F) Ln l1A l2A V
set_option maxHeartbeats 4000000 in
set_option maxRecDepth 100000 in
theorem LX1_judgeTree_go {α : Nat → Nat} {F : Nat} {v : Int32} {V1 : mV} {Φ : (Int32 → wPS → Prop)} : ∀ k' : Nat, (∀ (l1A : Nat) (l2A : Nat) (l3I : Int32) (l4I : Int32) (S : wPS) (V : mV) (Ln : Nat → Nat) , mRel α S Ln V → mK l1A = 3 → mK l2A = 9 → mX1_judgeTree_go F k' 0 Ln l1A l2A l3I l4I V = some (v, V1) → (∀ S1, mRel α S1 Ln V1 → mFr α S S1 → Φ v S1) → rX1_judgeTree_go F k' 0 (α 5) (α l1A) (α l2A) l3I l4I S Φ) := by
  intro k'
  induction k' with
  | zero => exact (fun _ _ _ _ _ _ _ _ _ _ h _ => by cases h)
  | succ k' ih =>
    intro l1A l2A l3I l4I S V Ln R sl1A sl2A h k
    rw [mX1_judgeTree_go, if_pos rfl] at h
    rw [rX1_judgeTree_go, if_pos rfl]
    unfold mX1_judgeTree_b0 at h
    unfold rX1_judgeTree_b0
    refine mIf h Iff.rfl (fun c1 h => ?_) (fun c1 h => ?_)
    · refine mIf h (by rw [show gRow_count S (α l2A) = V.fI l2A 1 from (mg_I (i := l2A) R (mO9 sl2A) rfl 1)]) (fun c2 h => ?_) (fun c2 h => ?_)
      · obtain ⟨rfl, rfl⟩ := mRW h
        exact k _ R mFr.rf
      · obtain ⟨rfl, rfl⟩ := mRW h
        exact k _ R mFr.rf
    · refine mIf h (by rw [show gClauses_isAtEnd S (α 5) = V.fI 5 6 from (mg_I (i := 5) R (by decide) rfl 6)]) (fun c3 h => ?_) (fun c3 h => ?_)
      · refine mIf h (by rw [show gRow_count S (α l2A) = V.fI l2A 1 from (mg_I (i := l2A) R (mO9 sl2A) rfl 1)]) (fun c4 h => ?_) (fun c4 h => ?_)
        · refine mIf h (by rw [show gClauses_depth S (α 5) = V.fI 5 4 from (mg_I (i := 5) R (by decide) rfl 4), show gEntry_size S (α l1A) = V.fI l1A 1 from (mg_I (i := l1A) R (mO3 sl1A) rfl 1)]) (fun c5 h => ?_) (fun c5 h => ?_)
          · obtain ⟨rfl, rfl⟩ := mRW h
            exact k _ R mFr.rf
          · obtain ⟨V7, eV7, h⟩ := mLt_some h
            refine mU_F eV7 R (by decide) rfl (by rw [show gClauses_depth S (α 5) = V.fI 5 4 from (mg_I (i := 5) R (by decide) rfl 4)]) (fun S7 R7 F7 => ?_)
            refine mLet h rfl (fun x8 ex8 h => ?_)
            exact ih _ _ _ _ _ _ _ R7 sl1A sl2A h (fun S1 R1 F1 => k S1 R1 (F7.tr F1))
        · obtain ⟨v9, hv9, h⟩ := mBN_some h
          refine LX9_at hv9 R sl2A rfl rfl ?_
          obtain ⟨v14, hv14, h⟩ := mBN_some h
          refine LX1_isLeaf hv14 R sl1A rfl rfl rfl ?_
          refine mIf h Iff.rfl (fun c6 h => ?_) (fun c6 h => ?_)
          · refine mIf h (by rw [show gClauses_depth S (α 5) = V.fI 5 4 from (mg_I (i := 5) R (by decide) rfl 4), show gEntry_size S (α l1A) = V.fI l1A 1 from (mg_I (i := l1A) R (mO3 sl1A) rfl 1)]) (fun c7 h => ?_) (fun c7 h => ?_)
            · obtain ⟨rfl, rfl⟩ := mRW h
              exact k _ R mFr.rf
            · obtain ⟨V21, eV21, h⟩ := mLt_some h
              refine mU_F eV21 R (by decide) rfl (by rw [show gClauses_depth S (α 5) = V.fI 5 4 from (mg_I (i := 5) R (by decide) rfl 4)]) (fun S21 R21 F21 => ?_)
              refine mLet h rfl (fun x22 ex22 h => ?_)
              exact ih _ _ _ _ _ _ _ R21 sl1A sl2A h (fun S1 R1 F1 => k S1 R1 (F21.tr F1))
          · refine mLet h rfl (fun x23 ex23 h => ?_)
            obtain ⟨v24, V25, hv24, h⟩ := mBW_some h
            refine LX1_goBack hv24 R rfl (fun S25 R25 F25 => ?_)
            refine mLet h rfl (fun x29 ex29 h => ?_)
            exact ih _ _ _ _ _ _ _ R25 sl1A sl2A h (fun S1 R1 F1 => k S1 R1 (F25.tr F1))
      · refine mIf h (by rw [show gRow_count S (α l2A) = V.fI l2A 1 from (mg_I (i := l2A) R (mO9 sl2A) rfl 1)]) (fun c8 h => ?_) (fun c8 h => ?_)
        · obtain ⟨rfl, rfl⟩ := mRW h
          exact k _ R mFr.rf
        · obtain ⟨rfl, rfl⟩ := mRW h
          exact k _ R mFr.rf
set_option maxHeartbeats 4000000 in
set_option maxRecDepth 100000 in
theorem LX1_judgeTree {α : Nat → Nat} {F : Nat} {S : wPS} {Ln : Nat → Nat} {V V1 : mV} {v : Int32} {Φ : (Int32 → wPS → Prop)} {l0Ax : Nat} {l1Ax : Nat} {l1A : Nat} {l2Ax : Nat} {l2A : Nat} (h : mX1_judgeTree F Ln l1A l2A V = some (v, V1)) (R : mRel α S Ln V) (sl1A : mK l1A = 3) (sl2A : mK l2A = 9) (el0A : l0Ax = α 5) (el1A : l1Ax = α l1A) (el2A : l2Ax = α l2A) (k : (∀ S1, mRel α S1 Ln V1 → mFr α S S1 → Φ v S1)) : rX1_judgeTree F l0Ax l1Ax l2Ax S Φ := by
  have el0A := el0A.symm
  subst el0A
  have el1A := el1A.symm
  subst el1A
  have el2A := el2A.symm
  subst el2A
  have ih := LX1_judgeTree_go  (α := α) (F := F) (v := v) (Φ := Φ) (V1 := V1) F
  unfold mX1_judgeTree mX1_judgeTree_s at h
  unfold rX1_judgeTree rX1_judgeTree_s
  obtain ⟨v30, hv30, h⟩ := mBN_some h
  refine LX9_liesWithin hv30 R sl2A rfl rfl rfl (by rw [show gEntry_itemCount S (α l1A) = V.fI l1A 6 from (mg_I (i := l1A) R (mO3 sl1A) rfl 6)]) ?_
  refine mIf h Iff.rfl (fun c9 h => ?_) (fun c9 h => ?_)
  · obtain ⟨rfl, rfl⟩ := mRW h
    exact k _ R mFr.rf
  · obtain ⟨v36, V37, hv36, h⟩ := mBW_some h
    refine LX1_begin hv36 R rfl (fun S37 R37 F37 => ?_)
    exact ih _ _ _ _ _ _ _ R37 sl1A sl2A h (fun S1 R1 F1 => k S1 R1 (F37.tr F1))
def mX2_loadEdges_b0 (F : Nat) (rec : Nat → Int32 → Int32 → mV → Option (Unit × mV)) (l3I : Int32) (V : mV) : Option (Unit × mV) :=
  (if (V.fI 3 8) ≤ l3I then some ((), V) else (if l3I < 0 ∨ 7 ≤ (l3I).toNatClampNeg then none else (mLt (mI V 29 (l3I) ((V.fI 3 9))) fun V3 => (if l3I < 0 ∨ 7 ≤ (l3I).toNatClampNeg then none else (mBN (mJ6_bitCount_0f7a4 F ((V3.rI 27 (l3I).toNatClampNeg))) fun v5 => (rec 1 (l3I) (v5) V3))))))
def mX2_loadEdges_b1 (F : Nat) (rec : Nat → Int32 → Int32 → mV → Option (Unit × mV)) (l3I : Int32) (l4I : Int32) (V : mV) : Option (Unit × mV) :=
  (if l4I ≤ 0 then (mBN (mX2_countWalksDue F (l3I) V) fun v11 => (if l3I < 0 ∨ 7 ≤ (l3I).toNatClampNeg then none else (mLt (mI V 33 (l3I) (v11)) fun V17 => (mLt (l3I + (1 : Int32)) fun x18 => (rec 0 (x18) 0 V17))))) else (if (22 : Int32) ≤ (V.fI 3 9) then (mBN (mX2_countWalksDue F (l3I) V) fun v20 => (if l3I < 0 ∨ 7 ≤ (l3I).toNatClampNeg then none else (mLt (mI V 33 (l3I) (v20)) fun V26 => (mLt (l3I + (1 : Int32)) fun x27 => (rec 0 (x27) 0 V26))))) else (if (V.fI 3 9) < 0 ∨ 22 ≤ ((V.fI 3 9)).toNatClampNeg then none else (mLt (mI V 30 ((V.fI 3 9)) (l3I)) fun V29 => (mLt (mF V29 3 9 (((V29.fI 3 9) + (1 : Int32)))) fun V30 => (mLt (l4I + (-1 : Int32)) fun x31 => (rec 1 (l3I) (x31) V30)))))))
def mX2_loadEdges_go (F : Nat) : Nat → Nat → Int32 → Int32 → mV → Option (Unit × mV)
  | 0, _, _, _, _ => none
  | k' + 1, lab, l3I, l4I, V => if lab = 0 then mX2_loadEdges_b0 F (mX2_loadEdges_go F k') l3I V else if lab = 1 then mX2_loadEdges_b1 F (mX2_loadEdges_go F k') l3I l4I V else none
def mX2_loadEdges_s (F : Nat) (rec : Nat → Int32 → Int32 → mV → Option (Unit × mV)) (l1A : Nat) (l2I : Int32) (V : mV) : Option (Unit × mV) :=
  (mBW (mX3_fillNear F l1A 27 (l2I) V) fun v32 V33 => (mBW (mJ7_fill_53178 F 28 ((0 : Int32)) V33) fun v37 V38 => (mLt (mF V38 3 8 ((V38.fI l1A 1))) fun V42 => (mLt (mF V42 3 9 ((0 : Int32))) fun V43 => (rec 0 ((0 : Int32)) 0 V43)))))
def mX2_loadEdges (F : Nat) (l1A : Nat) (l2I : Int32) (V : mV) : Option (Unit × mV) := mX2_loadEdges_s F (mX2_loadEdges_go F F) l1A l2I V
set_option maxHeartbeats 4000000 in
set_option maxRecDepth 100000 in
theorem LX2_loadEdges_go {α : Nat → Nat} {F : Nat} {Ln : Nat → Nat} {v : Unit} {V1 : mV} {Φ : (Unit → wPS → Prop)} : ∀ k' : Nat, (∀ (l3I : Int32) (S : wPS) (V : mV) , mRel α S Ln V → mX2_loadEdges_go F k' 0 l3I 0 V = some (v, V1) → (∀ S1, mRel α S1 Ln V1 → mFr α S S1 → Φ v S1) → rX2_loadEdges_go F k' 0 (α 3) l3I 0 S Φ) ∧ (∀ (l3I : Int32) (l4I : Int32) (S : wPS) (V : mV) , mRel α S Ln V → mX2_loadEdges_go F k' 1 l3I l4I V = some (v, V1) → (∀ S1, mRel α S1 Ln V1 → mFr α S S1 → Φ v S1) → rX2_loadEdges_go F k' 1 (α 3) l3I l4I S Φ) := by
  intro k'
  induction k' with
  | zero => exact ⟨(fun _ _ _ _ h _ => by cases h), (fun _ _ _ _ _ h _ => by cases h)⟩
  | succ k' ih =>
    refine ⟨?_, ?_⟩
    · intro l3I S V R h k
      rw [mX2_loadEdges_go, if_pos rfl] at h
      rw [rX2_loadEdges_go, if_pos rfl]
      unfold mX2_loadEdges_b0 at h
      unfold rX2_loadEdges_b0
      refine mIf h (by rw [show gDrawings_nodeCount S (α 3) = V.fI 3 8 from (mg_I (i := 3) R (by decide) rfl 8)]) (fun c1 h => ?_) (fun c1 h => ?_)
      · obtain ⟨rfl, rfl⟩ := mRW h
        exact k _ R mFr.rf
      · refine mGd h (by rw [show S.len (wkAd (gDrawings_firstPlace S (α 3))) = 7 from (mg_len (i := 29) R (mA13 rfl) (mg_A (t := 29) R rfl rfl))]) (fun c2 h => ?_)
        obtain ⟨V3, eV3, h⟩ := mLt_some h
        refine mU_I eV3 R (mA13 rfl) (mg_A (t := 29) R rfl rfl) rfl (by rw [show gDrawings_places S (α 3) = V.fI 3 9 from (mg_I (i := 3) R (by decide) rfl 9)]) (fun S3 R3 F3 => ?_)
        refine mGd h (by rw [show S3.len (wkAd (gDrawings_near S3 (α 3))) = 7 from (mg_len (i := 27) R3 (mA13 rfl) (mg_A (t := 27) R3 rfl rfl))]) (fun c3 h => ?_)
        obtain ⟨v5, hv5, h⟩ := mBN_some h
        refine LJ6_bitCount_0f7a4 hv5 (by rw [show S3.rI (wkAd (gDrawings_near S3 (α 3))) (l3I).toNatClampNeg = V3.rI 27 (l3I).toNatClampNeg from (mg_rI (i := 27) R3 (mA13 rfl) (mg_A (t := 27) R3 rfl rfl) rfl)]) ?_
        exact ih.2 _ _ _ _ R3 h (fun S1 R1 F1 => k S1 R1 (F3.tr F1))
    · intro l3I l4I S V R h k
      rw [mX2_loadEdges_go, if_neg (by decide), if_pos rfl] at h
      rw [rX2_loadEdges_go, if_neg (by decide), if_pos rfl]
      unfold mX2_loadEdges_b1 at h
      unfold rX2_loadEdges_b1
      refine mIf h Iff.rfl (fun c4 h => ?_) (fun c4 h => ?_)
      · obtain ⟨v11, hv11, h⟩ := mBN_some h
        refine LX2_countWalksDue hv11 R rfl rfl ?_
        refine mGd h (by rw [show S.len (wkAd (gDrawings_walksDue S (α 3))) = 7 from (mg_len (i := 33) R (mA13 rfl) (mg_A (t := 33) R rfl rfl))]) (fun c5 h => ?_)
        obtain ⟨V17, eV17, h⟩ := mLt_some h
        refine mU_I eV17 R (mA13 rfl) (mg_A (t := 33) R rfl rfl) rfl rfl (fun S17 R17 F17 => ?_)
        refine mLet h rfl (fun x18 ex18 h => ?_)
        exact ih.1 _ _ _ R17 h (fun S1 R1 F1 => k S1 R1 (F17.tr F1))
      · refine mIf h (by rw [show gDrawings_places S (α 3) = V.fI 3 9 from (mg_I (i := 3) R (by decide) rfl 9)]) (fun c6 h => ?_) (fun c6 h => ?_)
        · obtain ⟨v20, hv20, h⟩ := mBN_some h
          refine LX2_countWalksDue hv20 R rfl rfl ?_
          refine mGd h (by rw [show S.len (wkAd (gDrawings_walksDue S (α 3))) = 7 from (mg_len (i := 33) R (mA13 rfl) (mg_A (t := 33) R rfl rfl))]) (fun c7 h => ?_)
          obtain ⟨V26, eV26, h⟩ := mLt_some h
          refine mU_I eV26 R (mA13 rfl) (mg_A (t := 33) R rfl rfl) rfl rfl (fun S26 R26 F26 => ?_)
          refine mLet h rfl (fun x27 ex27 h => ?_)
          exact ih.1 _ _ _ R26 h (fun S1 R1 F1 => k S1 R1 (F26.tr F1))
        · refine mGd h (by rw [show S.len (wkAd (gDrawings_owner S (α 3))) = 22 from (mg_len (i := 30) R (mA13 rfl) (mg_A (t := 30) R rfl rfl)), show gDrawings_places S (α 3) = V.fI 3 9 from (mg_I (i := 3) R (by decide) rfl 9)]) (fun c8 h => ?_)
          obtain ⟨V29, eV29, h⟩ := mLt_some h
          refine mU_I eV29 R (mA13 rfl) (mg_A (t := 30) R rfl rfl) (by rw [show gDrawings_places S (α 3) = V.fI 3 9 from (mg_I (i := 3) R (by decide) rfl 9)]) rfl (fun S29 R29 F29 => ?_)
          obtain ⟨V30, eV30, h⟩ := mLt_some h
          refine mU_F eV30 R29 (by decide) rfl (by rw [show gDrawings_places S29 (α 3) = V29.fI 3 9 from (mg_I (i := 3) R29 (by decide) rfl 9)]) (fun S30 R30 F30 => ?_)
          refine mLet h rfl (fun x31 ex31 h => ?_)
          exact ih.2 _ _ _ _ R30 h (fun S1 R1 F1 => k S1 R1 (F29.tr (F30.tr F1)))
set_option maxHeartbeats 4000000 in
set_option maxRecDepth 100000 in
theorem LX2_loadEdges {α : Nat → Nat} {F : Nat} {S : wPS} {Ln : Nat → Nat} {V V1 : mV} {v : Unit} {Φ : (Unit → wPS → Prop)} {l0Ax : Nat} {l1Ax : Nat} {l1A : Nat} {l2Ix l2I : Int32} (h : mX2_loadEdges F l1A l2I V = some (v, V1)) (R : mRel α S Ln V) (sl1A : mK l1A = 3) (el0A : l0Ax = α 3) (el1A : l1Ax = α l1A) (el2I : l2Ix = l2I) (k : (∀ S1, mRel α S1 Ln V1 → mFr α S S1 → Φ v S1)) : rX2_loadEdges F l0Ax l1Ax l2Ix S Φ := by
  have el0A := el0A.symm
  subst el0A
  have el1A := el1A.symm
  subst el1A
  have el2I := el2I.symm
  subst el2I
  have ih := LX2_loadEdges_go  (α := α) (F := F) (v := v) (Ln := Ln) (Φ := Φ) (V1 := V1) F
  unfold mX2_loadEdges mX2_loadEdges_s at h
  unfold rX2_loadEdges rX2_loadEdges_s
  obtain ⟨v32, V33, hv32, h⟩ := mBW_some h
  refine LX3_fillNear hv32 R sl1A rfl rfl (mg_A (t := 27) R rfl rfl) rfl (fun S33 R33 F33 => ?_)
  obtain ⟨v37, V38, hv37, h⟩ := mBW_some h
  refine LJ7_fill_53178 hv37 R33 rfl (mg_A (t := 28) R33 rfl rfl) rfl (fun S38 R38 F38 => ?_)
  obtain ⟨V42, eV42, h⟩ := mLt_some h
  refine mU_F eV42 R38 (by decide) rfl (by rw [show gEntry_size S38 (α l1A) = V38.fI l1A 1 from (mg_I (i := l1A) R38 (mO3 sl1A) rfl 1)]) (fun S42 R42 F42 => ?_)
  obtain ⟨V43, eV43, h⟩ := mLt_some h
  refine mU_F eV43 R42 (by decide) rfl rfl (fun S43 R43 F43 => ?_)
  exact ih.1 _ _ _ R43 h (fun S1 R1 F1 => k S1 R1 (F33.tr (F38.tr (F42.tr (F43.tr F1)))))
end
