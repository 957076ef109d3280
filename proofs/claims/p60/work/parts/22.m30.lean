/-! LIFTED BY PROGRAM (lift.py): X1_solve, X2_solve, X4_carriesOver, X6_solveGames, X7_solveFlows. -/
section
def mX1_solve_b0 (F : Nat) (rec : Nat → (Nat → Nat) → Nat → Int32 → Int32 → Int32 → mV → Option (Unit × (Nat → Nat) × mV)) (Ln : Nat → Nat) (l1A : Nat) (l2I : Int32) (l3I : Int32) (l4I : Int32) (V : mV) : Option (Unit × (Nat → Nat) × mV) :=
  (if ((1 : Int32) <<< (l2I &&& 31)) ≤ l4I then (if l3I ≤ 0 then (mBW (mX3_tell F l1A ((0 : Int32)) (l3I) V) fun v3 V4 => (if l3I = 0 then (mBA (mX1_goThrough F Ln l1A (l1A + 2) V4) fun v9 L10 V10 => some ((), L10, V10)) else some ((), Ln, V4))) else (mBW (mX3_tell F l1A ((1 : Int32)) (l3I) V) fun v14 V15 => (if l3I = 0 then (mBA (mX1_goThrough F Ln l1A (l1A + 2) V15) fun v20 L21 V21 => some ((), L21, V21)) else some ((), Ln, V15)))) else (mBW (mX1_isFulfilled F l1A (l4I) V) fun v25 V26 => (if v25 = 0 then (mLt (l4I + (1 : Int32)) fun x31 => (rec 0 Ln l1A (l2I) (l3I) (x31) V26)) else (if l3I = 0 then (mBA (mX1_writeTruths F Ln (l4I) (l2I) (l1A + 2) V26) fun v35 L36 V36 => (mLt (l3I + (1 : Int32)) fun x40 => (mLt (l4I + (1 : Int32)) fun x41 => (rec 0 L36 l1A (l2I) (x40) (x41) V36)))) else (mLt (l3I + (1 : Int32)) fun x33 => (mLt (l4I + (1 : Int32)) fun x34 => (rec 0 Ln l1A (l2I) (x33) (x34) V26)))))))
def mX1_solve_go (F : Nat) : Nat → Nat → (Nat → Nat) → Nat → Int32 → Int32 → Int32 → mV → Option (Unit × (Nat → Nat) × mV)
  | 0, _, _, _, _, _, _, _ => none
  | k' + 1, lab, Ln, l1A, l2I, l3I, l4I, V => if lab = 0 then mX1_solve_b0 F (mX1_solve_go F k') Ln l1A l2I l3I l4I V else none
def mX1_solve_s (F : Nat) (rec : Nat → (Nat → Nat) → Nat → Int32 → Int32 → Int32 → mV → Option (Unit × (Nat → Nat) × mV)) (Ln : Nat → Nat) (l1A : Nat) (V : mV) : Option (Unit × (Nat → Nat) × mV) :=
  (mLt (V.fI l1A 1) fun x42 => (rec 0 Ln l1A (x42) ((0 : Int32)) ((0 : Int32)) V))
def mX1_solve (F : Nat) (Ln : Nat → Nat) (l1A : Nat) (V : mV) : Option (Unit × (Nat → Nat) × mV) := mX1_solve_s F (mX1_solve_go F F) Ln l1A V
set_option maxHeartbeats 4000000 in
set_option maxRecDepth 100000 in
theorem MX1_solve_go {F : Nat} {v : Unit} {Ln1 : Nat → Nat} {V1 : mV} : ∀ k' : Nat, (∀ (l1A : Nat) (l2I : Int32) (l3I : Int32) (l4I : Int32) (Ln : Nat → Nat) (V : mV), mX1_solve_go F k' 0 Ln l1A l2I l3I l4I V = some (v, Ln1, V1) → mP Ln1 ≤ mP Ln) := by
  intro k'
  induction k' with
  | zero => exact (fun _ _ _ _ _ _ h => by cases h)
  | succ k' ihM =>
    skip
    intro l1A l2I l3I l4I Ln V h
    rw [mX1_solve_go, if_pos rfl] at h
    unfold mX1_solve_b0 at h
    rcases mIf_some h with ⟨_, h⟩ | ⟨_, h⟩
    · rcases mIf_some h with ⟨_, h⟩ | ⟨_, h⟩
      · obtain ⟨_, _, _, h⟩ := mBW_some h
        rcases mIf_some h with ⟨_, h⟩ | ⟨_, h⟩
        · obtain ⟨_, _, _, z1, h⟩ := mBA_some h
          refine Nat.le_trans ?_ (MX1_goThrough z1)
          cases h
          exact Nat.le_refl _
        · cases h
          exact Nat.le_refl _
      · obtain ⟨_, _, _, h⟩ := mBW_some h
        rcases mIf_some h with ⟨_, h⟩ | ⟨_, h⟩
        · obtain ⟨_, _, _, z2, h⟩ := mBA_some h
          refine Nat.le_trans ?_ (MX1_goThrough z2)
          cases h
          exact Nat.le_refl _
        · cases h
          exact Nat.le_refl _
    · obtain ⟨_, _, _, h⟩ := mBW_some h
      rcases mIf_some h with ⟨_, h⟩ | ⟨_, h⟩
      · obtain ⟨_, _, h⟩ := mLt_some h
        exact ihM _ _ _ _ _ _ h
      · rcases mIf_some h with ⟨_, h⟩ | ⟨_, h⟩
        · obtain ⟨_, _, _, z3, h⟩ := mBA_some h
          refine Nat.le_trans ?_ (MX1_writeTruths z3)
          obtain ⟨_, _, h⟩ := mLt_some h
          obtain ⟨_, _, h⟩ := mLt_some h
          exact ihM _ _ _ _ _ _ h
        · obtain ⟨_, _, h⟩ := mLt_some h
          obtain ⟨_, _, h⟩ := mLt_some h
          exact ihM _ _ _ _ _ _ h
set_option maxHeartbeats 4000000 in
set_option maxRecDepth 100000 in
theorem MX1_solve {F : Nat} {Ln Ln1 : Nat → Nat} {V V1 : mV} {v : Unit} {l1A : Nat} (h : mX1_solve F Ln l1A V = some (v, Ln1, V1)) : mP Ln1 ≤ mP Ln := by
  have ihM := MX1_solve_go (F := F) (v := v) (Ln1 := Ln1) (V1 := V1) F
  unfold mX1_solve mX1_solve_s at h
  obtain ⟨_, _, h⟩ := mLt_some h
  exact ihM _ _ _ _ _ _ h
set_option maxHeartbeats 4000000 in
set_option maxRecDepth 100000 in
theorem LX1_solve_go {α : Nat → Nat} {k0 n0 : Nat} {F : Nat} {v : Unit} {Ln1 : Nat → Nat} {V1 : mV} {Φ : (Unit → wPS → Prop)} : ∀ k' : Nat, (∀ (l1A : Nat) (l2I : Int32) (l3I : Int32) (l4I : Int32) (S : wPS) (V : mV) (Ln : Nat → Nat) (c s : Nat), mRel α S Ln V → mK l1A = 3 → mX1_solve_go F k' 0 Ln l1A l2I l3I l4I V = some (v, Ln1, V1) → c + (mP Ln - mP Ln1) / 16 ≤ k0 → s + (mP Ln - mP Ln1) ≤ n0 → (∀ S1, mRel α S1 Ln1 V1 → mFr α S S1 → Φ v S1) → rX1_solve_go F k0 n0 k' 0 c s (α 5) (α l1A) l2I l3I l4I S Φ) := by
  intro k'
  induction k' with
  | zero => exact (fun _ _ _ _ _ _ _ _ _ _ _ h _ _ _ => by cases h)
  | succ k' ih =>
    have ihM := MX1_solve_go (F := F) (v := v) (Ln1 := Ln1) (V1 := V1) k'
    intro l1A l2I l3I l4I S V Ln c s R sl1A h hk hn k
    rw [mX1_solve_go, if_pos rfl] at h
    rw [rX1_solve_go, if_pos rfl]
    unfold mX1_solve_b0 at h
    unfold rX1_solve_b0
    refine mIf h Iff.rfl (fun c4 h => ?_) (fun c4 h => ?_)
    · refine mIf h Iff.rfl (fun c5 h => ?_) (fun c5 h => ?_)
      · obtain ⟨v3, V4, hv3, h⟩ := mBW_some h
        refine LX3_tell hv3 R sl1A rfl rfl rfl (fun S4 R4 F4 => ?_)
        refine mIf h Iff.rfl (fun c6 h => ?_) (fun c6 h => ?_)
        · obtain ⟨v9, L10, V10, hv9, h⟩ := mBA_some h
          have mv9 : mP L10 ≤ mP Ln := MX1_goThrough hv9
          have qv9 : mP Ln1 ≤ mP L10 := by
            cases h
            exact Nat.le_refl _
          refine ⟨(mP Ln - mP L10) / 16, mP Ln - mP L10, by omega, by omega, ?_⟩
          refine LX1_goThrough hv9 R4 sl1A (mKe2 sl1A) rfl rfl (mg_A (t := (l1A + 2)) R4 (mRe sl1A rfl) rfl) (by omega) (by omega) (fun S10 R10 F10 => ?_)
          obtain ⟨rfl, rfl, rfl⟩ := mRA3 h
          exact k _ R10 (F4.tr F10)
        · obtain ⟨rfl, rfl, rfl⟩ := mRA3 h
          exact k _ R4 F4
      · obtain ⟨v14, V15, hv14, h⟩ := mBW_some h
        refine LX3_tell hv14 R sl1A rfl rfl rfl (fun S15 R15 F15 => ?_)
        refine mIf h Iff.rfl (fun c7 h => ?_) (fun c7 h => ?_)
        · obtain ⟨v20, L21, V21, hv20, h⟩ := mBA_some h
          have mv20 : mP L21 ≤ mP Ln := MX1_goThrough hv20
          have qv20 : mP Ln1 ≤ mP L21 := by
            cases h
            exact Nat.le_refl _
          refine ⟨(mP Ln - mP L21) / 16, mP Ln - mP L21, by omega, by omega, ?_⟩
          refine LX1_goThrough hv20 R15 sl1A (mKe2 sl1A) rfl rfl (mg_A (t := (l1A + 2)) R15 (mRe sl1A rfl) rfl) (by omega) (by omega) (fun S21 R21 F21 => ?_)
          obtain ⟨rfl, rfl, rfl⟩ := mRA3 h
          exact k _ R21 (F15.tr F21)
        · obtain ⟨rfl, rfl, rfl⟩ := mRA3 h
          exact k _ R15 F15
    · obtain ⟨v25, V26, hv25, h⟩ := mBW_some h
      refine LX1_isFulfilled hv25 R sl1A rfl rfl rfl (fun S26 R26 F26 => ?_)
      refine mIf h Iff.rfl (fun c8 h => ?_) (fun c8 h => ?_)
      · refine mLet h rfl (fun x31 ex31 h => ?_)
        exact ih _ _ _ _ _ _ _ _ _ R26 sl1A h (by omega) (by omega) (fun S1 R1 F1 => k S1 R1 (F26.tr F1))
      · refine mIf h Iff.rfl (fun c9 h => ?_) (fun c9 h => ?_)
        · obtain ⟨v35, L36, V36, hv35, h⟩ := mBA_some h
          have mv35 : mP L36 ≤ mP Ln := MX1_writeTruths hv35
          have qv35 : mP Ln1 ≤ mP L36 := by
            obtain ⟨_, _, h⟩ := mLt_some h
            obtain ⟨_, _, h⟩ := mLt_some h
            exact ihM _ _ _ _ _ _ h
          refine ⟨(mP Ln - mP L36) / 16, mP Ln - mP L36, by omega, by omega, ?_⟩
          refine LX1_writeTruths hv35 R26 (mKe2 sl1A) rfl rfl (mg_A (t := (l1A + 2)) R26 (mRe sl1A rfl) rfl) (by omega) (by omega) (fun S36 R36 F36 => ?_)
          refine mLet h rfl (fun x40 ex40 h => ?_)
          refine mLet h rfl (fun x41 ex41 h => ?_)
          exact ih _ _ _ _ _ _ _ _ _ R36 sl1A h (by omega) (by omega) (fun S1 R1 F1 => k S1 R1 (F26.tr (F36.tr F1)))
        · refine mLet h rfl (fun x33 ex33 h => ?_)
          refine mLet h rfl (fun x34 ex34 h => ?_)
          exact ih _ _ _ _ _ _ _ _ _ R26 sl1A h (by omega) (by omega) (fun S1 R1 F1 => k S1 R1 (F26.tr F1))
set_option maxHeartbeats 4000000 in
set_option maxRecDepth 100000 in
theorem LX1_solve {α : Nat → Nat} {F : Nat} {S : wPS} {Ln Ln1 : Nat → Nat} {V V1 : mV} {v : Unit} {Φ : (Unit → wPS → Prop)} {l0Ax : Nat} {l1Ax : Nat} {l1A : Nat} {k0 n0 : Nat} (h : mX1_solve F Ln l1A V = some (v, Ln1, V1)) (R : mRel α S Ln V) (sl1A : mK l1A = 3) (el0A : l0Ax = α 5) (el1A : l1Ax = α l1A) (hk : (mP Ln - mP Ln1) / 16 ≤ k0) (hn : mP Ln - mP Ln1 ≤ n0) (k : (∀ S1, mRel α S1 Ln1 V1 → mFr α S S1 → Φ v S1)) : rX1_solve F k0 n0 l0Ax l1Ax S Φ := by
  have el0A := el0A.symm
  subst el0A
  have el1A := el1A.symm
  subst el1A
  have ih := LX1_solve_go  (α := α) (F := F) (v := v) (k0 := k0) (n0 := n0) (Ln1 := Ln1) (Φ := Φ) (V1 := V1) F
  have ihM := MX1_solve_go (F := F) (v := v) (Ln1 := Ln1) (V1 := V1) F
  unfold mX1_solve mX1_solve_s at h
  unfold rX1_solve rX1_solve_s
  refine mLet h (by rw [show gEntry_size S (α l1A) = V.fI l1A 1 from (mg_I (i := l1A) R (mO3 sl1A) rfl 1)]) (fun x42 ex42 h => ?_)
  exact ih _ _ _ _ _ _ _ _ _ R sl1A h (by omega) (by omega) (fun S1 R1 F1 => k S1 R1 F1)
def mX2_solve_b0 (F : Nat) (rec : Nat → (Nat → Nat) → Nat → Int32 → mV → Option (Unit × (Nat → Nat) × mV)) (Ln : Nat → Nat) (l1A : Nat) (l3I : Int32) (V : mV) : Option (Unit × (Nat → Nat) × mV) :=
  (if (V.fI 3 9) ≤ l3I then (mBN (mX2_countWalks F (((V.fI 3 8) - (1 : Int32))) V) fun v2 => (mBW (mX3_tell F l1A ((1 : Int32)) (v2) V) fun v7 V8 => some ((), Ln, V8))) else (if l3I < 0 ∨ 22 ≤ (l3I).toNatClampNeg then none else (mBA (mX9_add F Ln (l1A + 2) ((V.rI 31 (l3I).toNatClampNeg)) V) fun v13 L14 V14 => (mLt (l3I + (1 : Int32)) fun x18 => (rec 0 L14 l1A (x18) V14)))))
def mX2_solve_go (F : Nat) : Nat → Nat → (Nat → Nat) → Nat → Int32 → mV → Option (Unit × (Nat → Nat) × mV)
  | 0, _, _, _, _, _ => none
  | k' + 1, lab, Ln, l1A, l3I, V => if lab = 0 then mX2_solve_b0 F (mX2_solve_go F k') Ln l1A l3I V else none
def mX2_solve_s (F : Nat) (rec : Nat → (Nat → Nat) → Nat → Int32 → mV → Option (Unit × (Nat → Nat) × mV)) (Ln : Nat → Nat) (l1A : Nat) (V : mV) : Option (Unit × (Nat → Nat) × mV) :=
  (mBN (mX2_countedItems F l1A V) fun v19 => (mBW (mX2_loadEdges F l1A (v19) V) fun v24 V25 => (mBW (mX2_fillsFrom F 48 ((0 : Int32)) V25) fun v29 V30 => (if v29 = 0 then (mBA (mX2_writeCore F Ln l1A (v19) V30) fun v35 L36 V36 => (mBW (mX3_tell F l1A ((0 : Int32)) ((0 : Int32)) V36) fun v40 V41 => some ((), L36, V41))) else (rec 0 Ln l1A ((0 : Int32)) V30)))))
def mX2_solve (F : Nat) (Ln : Nat → Nat) (l1A : Nat) (V : mV) : Option (Unit × (Nat → Nat) × mV) := mX2_solve_s F (mX2_solve_go F F) Ln l1A V
set_option maxHeartbeats 4000000 in
set_option maxRecDepth 100000 in
theorem MX2_solve_go {F : Nat} {v : Unit} {Ln1 : Nat → Nat} {V1 : mV} : ∀ k' : Nat, (∀ (l1A : Nat) (l3I : Int32) (Ln : Nat → Nat) (V : mV), mX2_solve_go F k' 0 Ln l1A l3I V = some (v, Ln1, V1) → mP Ln1 ≤ mP Ln) := by
  intro k'
  induction k' with
  | zero => exact (fun _ _ _ _ h => by cases h)
  | succ k' ihM =>
    skip
    intro l1A l3I Ln V h
    rw [mX2_solve_go, if_pos rfl] at h
    unfold mX2_solve_b0 at h
    rcases mIf_some h with ⟨_, h⟩ | ⟨_, h⟩
    · obtain ⟨_, _, h⟩ := mBN_some h
      obtain ⟨_, _, _, h⟩ := mBW_some h
      cases h
      exact Nat.le_refl _
    · obtain ⟨_, h⟩ := mGd_some h
      obtain ⟨_, _, _, z1, h⟩ := mBA_some h
      refine Nat.le_trans ?_ (MX9_add z1)
      obtain ⟨_, _, h⟩ := mLt_some h
      exact ihM _ _ _ _ h
set_option maxHeartbeats 4000000 in
set_option maxRecDepth 100000 in
theorem MX2_solve {F : Nat} {Ln Ln1 : Nat → Nat} {V V1 : mV} {v : Unit} {l1A : Nat} (h : mX2_solve F Ln l1A V = some (v, Ln1, V1)) : mP Ln1 ≤ mP Ln := by
  have ihM := MX2_solve_go (F := F) (v := v) (Ln1 := Ln1) (V1 := V1) F
  unfold mX2_solve mX2_solve_s at h
  obtain ⟨_, _, h⟩ := mBN_some h
  obtain ⟨_, _, _, h⟩ := mBW_some h
  obtain ⟨_, _, _, h⟩ := mBW_some h
  rcases mIf_some h with ⟨_, h⟩ | ⟨_, h⟩
  · obtain ⟨_, _, _, z2, h⟩ := mBA_some h
    refine Nat.le_trans ?_ (MX2_writeCore z2)
    obtain ⟨_, _, _, h⟩ := mBW_some h
    cases h
    exact Nat.le_refl _
  · exact ihM _ _ _ _ h
set_option maxHeartbeats 4000000 in
set_option maxRecDepth 100000 in
theorem LX2_solve_go {α : Nat → Nat} {k0 n0 : Nat} {F : Nat} {v : Unit} {Ln1 : Nat → Nat} {V1 : mV} {Φ : (Unit → wPS → Prop)} : ∀ k' : Nat, (∀ (l1A : Nat) (l3I : Int32) (S : wPS) (V : mV) (Ln : Nat → Nat) (c s : Nat), mRel α S Ln V → mK l1A = 3 → mX2_solve_go F k' 0 Ln l1A l3I V = some (v, Ln1, V1) → c + (mP Ln - mP Ln1) / 16 ≤ k0 → s + (mP Ln - mP Ln1) ≤ n0 → (∀ S1, mRel α S1 Ln1 V1 → mFr α S S1 → Φ v S1) → rX2_solve_go F k0 n0 k' 0 c s (α 3) (α l1A) l3I S Φ) := by
  intro k'
  induction k' with
  | zero => exact (fun _ _ _ _ _ _ _ _ _ h _ _ _ => by cases h)
  | succ k' ih =>
    have ihM := MX2_solve_go (F := F) (v := v) (Ln1 := Ln1) (V1 := V1) k'
    intro l1A l3I S V Ln c s R sl1A h hk hn k
    rw [mX2_solve_go, if_pos rfl] at h
    rw [rX2_solve_go, if_pos rfl]
    unfold mX2_solve_b0 at h
    unfold rX2_solve_b0
    refine mIf h (by rw [show gDrawings_places S (α 3) = V.fI 3 9 from (mg_I (i := 3) R (by decide) rfl 9)]) (fun c3 h => ?_) (fun c3 h => ?_)
    · obtain ⟨v2, hv2, h⟩ := mBN_some h
      refine LX2_countWalks hv2 R rfl (by rw [show gDrawings_nodeCount S (α 3) = V.fI 3 8 from (mg_I (i := 3) R (by decide) rfl 8)]) ?_
      obtain ⟨v7, V8, hv7, h⟩ := mBW_some h
      refine LX3_tell hv7 R sl1A rfl rfl rfl (fun S8 R8 F8 => ?_)
      obtain ⟨rfl, rfl, rfl⟩ := mRA3 h
      exact k _ R8 F8
    · refine mGd h (by rw [show S.len (wkAd (gDrawings_ring S (α 3))) = 22 from (mg_len (i := 31) R (mA13 rfl) (mg_A (t := 31) R rfl rfl))]) (fun c4 h => ?_)
      obtain ⟨v13, L14, V14, hv13, h⟩ := mBA_some h
      have mv13 : mP L14 ≤ mP Ln := MX9_add hv13
      have qv13 : mP Ln1 ≤ mP L14 := by
        obtain ⟨_, _, h⟩ := mLt_some h
        exact ihM _ _ _ _ h
      refine ⟨(mP Ln - mP L14) / 16, mP Ln - mP L14, by omega, by omega, ?_⟩
      refine LX9_add hv13 R (mKe2 sl1A) (mg_A (t := (l1A + 2)) R (mRe sl1A rfl) rfl) (by rw [show S.rI (wkAd (gDrawings_ring S (α 3))) (l3I).toNatClampNeg = V.rI 31 (l3I).toNatClampNeg from (mg_rI (i := 31) R (mA13 rfl) (mg_A (t := 31) R rfl rfl) rfl)]) (by omega) (by omega) (fun S14 R14 F14 => ?_)
      refine mLet h rfl (fun x18 ex18 h => ?_)
      exact ih _ _ _ _ _ _ _ R14 sl1A h (by omega) (by omega) (fun S1 R1 F1 => k S1 R1 (F14.tr F1))
set_option maxHeartbeats 4000000 in
set_option maxRecDepth 100000 in
theorem LX2_solve {α : Nat → Nat} {F : Nat} {S : wPS} {Ln Ln1 : Nat → Nat} {V V1 : mV} {v : Unit} {Φ : (Unit → wPS → Prop)} {l0Ax : Nat} {l1Ax : Nat} {l1A : Nat} {k0 n0 : Nat} (h : mX2_solve F Ln l1A V = some (v, Ln1, V1)) (R : mRel α S Ln V) (sl1A : mK l1A = 3) (el0A : l0Ax = α 3) (el1A : l1Ax = α l1A) (hk : (mP Ln - mP Ln1) / 16 ≤ k0) (hn : mP Ln - mP Ln1 ≤ n0) (k : (∀ S1, mRel α S1 Ln1 V1 → mFr α S S1 → Φ v S1)) : rX2_solve F k0 n0 l0Ax l1Ax S Φ := by
  have el0A := el0A.symm
  subst el0A
  have el1A := el1A.symm
  subst el1A
  have ih := LX2_solve_go  (α := α) (F := F) (v := v) (k0 := k0) (n0 := n0) (Ln1 := Ln1) (Φ := Φ) (V1 := V1) F
  have ihM := MX2_solve_go (F := F) (v := v) (Ln1 := Ln1) (V1 := V1) F
  unfold mX2_solve mX2_solve_s at h
  unfold rX2_solve rX2_solve_s
  obtain ⟨v19, hv19, h⟩ := mBN_some h
  refine LX2_countedItems hv19 R sl1A rfl ?_
  obtain ⟨v24, V25, hv24, h⟩ := mBW_some h
  refine LX2_loadEdges hv24 R sl1A rfl rfl rfl (fun S25 R25 F25 => ?_)
  obtain ⟨v29, V30, hv29, h⟩ := mBW_some h
  refine LX2_fillsFrom hv29 R25 rfl rfl (fun S30 R30 F30 => ?_)
  refine mIf h Iff.rfl (fun c5 h => ?_) (fun c5 h => ?_)
  · obtain ⟨v35, L36, V36, hv35, h⟩ := mBA_some h
    have mv35 : mP L36 ≤ mP Ln := MX2_writeCore hv35
    have qv35 : mP Ln1 ≤ mP L36 := by
      obtain ⟨_, _, _, h⟩ := mBW_some h
      cases h
      exact Nat.le_refl _
    refine ⟨(mP Ln - mP L36) / 16, mP Ln - mP L36, by omega, by omega, ?_⟩
    refine LX2_writeCore hv35 R30 sl1A rfl rfl rfl (by omega) (by omega) (fun S36 R36 F36 => ?_)
    obtain ⟨v40, V41, hv40, h⟩ := mBW_some h
    refine LX3_tell hv40 R36 sl1A rfl rfl rfl (fun S41 R41 F41 => ?_)
    obtain ⟨rfl, rfl, rfl⟩ := mRA3 h
    exact k _ R41 (F25.tr (F30.tr (F36.tr F41)))
  · exact ih _ _ _ _ _ _ _ R30 sl1A h (by omega) (by omega) (fun S1 R1 F1 => k S1 R1 (F25.tr (F30.tr F1)))
def mX4_carriesOver_b0 (F : Nat) (rec : Nat → Nat → Int32 → Nat → mV → Option (Int32 × mV)) (l1A : Nat) (l2I : Int32) (l3A : Nat) (V : mV) : Option (Int32 × mV) :=
  (if (V.fI l1A 0) = (1 : Int32) then (if l2I = (3 : Int32) then (mBW (mX4_carriesFlows F l1A l3A V) fun v19 V20 => (if ¬ ((v19 = 0 ∨ v19 = 1)) then none else some (v19, V20))) else (if (V.fI l1A 0) = 0 then (if l2I = (4 : Int32) then (mBW (mX4_carriesEdges F l1A l3A V) fun v13 V14 => (if ¬ ((v13 = 0 ∨ v13 = 1)) then none else some (v13, V14))) else some ((0 : Int32), V)) else some ((0 : Int32), V))) else (if (V.fI l1A 0) = 0 then (if l2I = (4 : Int32) then (mBW (mX4_carriesEdges F l1A l3A V) fun v4 V5 => (if ¬ ((v4 = 0 ∨ v4 = 1)) then none else some (v4, V5))) else some ((0 : Int32), V)) else some ((0 : Int32), V)))
def mX4_carriesOver_go (F : Nat) : Nat → Nat → Nat → Int32 → Nat → mV → Option (Int32 × mV)
  | 0, _, _, _, _, _ => none
  | k' + 1, lab, l1A, l2I, l3A, V => if lab = 0 then mX4_carriesOver_b0 F (mX4_carriesOver_go F k') l1A l2I l3A V else none
def mX4_carriesOver_s (F : Nat) (rec : Nat → Nat → Int32 → Nat → mV → Option (Int32 × mV)) (l1A : Nat) (l2I : Int32) (l3A : Nat) (V : mV) : Option (Int32 × mV) :=
  (if (V.fI l1A 0) = 0 then (if l2I = (1 : Int32) then (mBW (mX4_carriesPairings F l1A l3A V) fun v27 V28 => (if ¬ ((v27 = 0 ∨ v27 = 1)) then none else some (v27, V28))) else (rec 0 l1A (l2I) l3A V)) else (rec 0 l1A (l2I) l3A V))
def mX4_carriesOver (F : Nat) (l1A : Nat) (l2I : Int32) (l3A : Nat) (V : mV) : Option (Int32 × mV) := mX4_carriesOver_s F (mX4_carriesOver_go F F) l1A l2I l3A V
set_option maxHeartbeats 4000000 in
set_option maxRecDepth 100000 in
theorem LX4_carriesOver_go {α : Nat → Nat} {F : Nat} {Ln : Nat → Nat} {v : Int32} {V1 : mV} {Φ : (Int32 → wPS → Prop)} : ∀ k' : Nat, (∀ (l1A : Nat) (l2I : Int32) (l3A : Nat) (S : wPS) (V : mV) , mRel α S Ln V → mK l1A = 3 → mK l3A = 3 → mX4_carriesOver_go F k' 0 l1A l2I l3A V = some (v, V1) → (∀ S1, mRel α S1 Ln V1 → mFr α S S1 → Φ v S1) → rX4_carriesOver_go F k' 0 (α 1) (α l1A) l2I (α l3A) S Φ) := by
  intro k'
  induction k' with
  | zero => exact (fun _ _ _ _ _ _ _ _ h _ => by cases h)
  | succ k' ih =>
    intro l1A l2I l3A S V R sl1A sl3A h k
    rw [mX4_carriesOver_go, if_pos rfl] at h
    rw [rX4_carriesOver_go, if_pos rfl]
    unfold mX4_carriesOver_b0 at h
    unfold rX4_carriesOver_b0
    refine mIf h (by rw [show gEntry_kind S (α l1A) = V.fI l1A 0 from (mg_I (i := l1A) R (mO3 sl1A) rfl 0)]) (fun c1 h => ?_) (fun c1 h => ?_)
    · refine mIf h Iff.rfl (fun c2 h => ?_) (fun c2 h => ?_)
      · obtain ⟨v19, V20, hv19, h⟩ := mBW_some h
        refine LX4_carriesFlows hv19 R sl1A sl3A rfl rfl rfl (fun S20 R20 F20 => ?_)
        refine mGp h Iff.rfl (fun c3 h => ?_)
        obtain ⟨rfl, rfl⟩ := mRW h
        exact k _ R20 F20
      · refine mIf h (by rw [show gEntry_kind S (α l1A) = V.fI l1A 0 from (mg_I (i := l1A) R (mO3 sl1A) rfl 0)]) (fun c4 h => ?_) (fun c4 h => ?_)
        · refine mIf h Iff.rfl (fun c5 h => ?_) (fun c5 h => ?_)
          · obtain ⟨v13, V14, hv13, h⟩ := mBW_some h
            refine LX4_carriesEdges hv13 R sl1A sl3A rfl rfl rfl (fun S14 R14 F14 => ?_)
            refine mGp h Iff.rfl (fun c6 h => ?_)
            obtain ⟨rfl, rfl⟩ := mRW h
            exact k _ R14 F14
          · obtain ⟨rfl, rfl⟩ := mRW h
            exact k _ R mFr.rf
        · obtain ⟨rfl, rfl⟩ := mRW h
          exact k _ R mFr.rf
    · refine mIf h (by rw [show gEntry_kind S (α l1A) = V.fI l1A 0 from (mg_I (i := l1A) R (mO3 sl1A) rfl 0)]) (fun c7 h => ?_) (fun c7 h => ?_)
      · refine mIf h Iff.rfl (fun c8 h => ?_) (fun c8 h => ?_)
        · obtain ⟨v4, V5, hv4, h⟩ := mBW_some h
          refine LX4_carriesEdges hv4 R sl1A sl3A rfl rfl rfl (fun S5 R5 F5 => ?_)
          refine mGp h Iff.rfl (fun c9 h => ?_)
          obtain ⟨rfl, rfl⟩ := mRW h
          exact k _ R5 F5
        · obtain ⟨rfl, rfl⟩ := mRW h
          exact k _ R mFr.rf
      · obtain ⟨rfl, rfl⟩ := mRW h
        exact k _ R mFr.rf
set_option maxHeartbeats 4000000 in
set_option maxRecDepth 100000 in
theorem LX4_carriesOver {α : Nat → Nat} {F : Nat} {S : wPS} {Ln : Nat → Nat} {V V1 : mV} {v : Int32} {Φ : (Int32 → wPS → Prop)} {l0Ax : Nat} {l1Ax : Nat} {l1A : Nat} {l2Ix l2I : Int32} {l3Ax : Nat} {l3A : Nat} (h : mX4_carriesOver F l1A l2I l3A V = some (v, V1)) (R : mRel α S Ln V) (sl1A : mK l1A = 3) (sl3A : mK l3A = 3) (el0A : l0Ax = α 1) (el1A : l1Ax = α l1A) (el2I : l2Ix = l2I) (el3A : l3Ax = α l3A) (k : (∀ S1, mRel α S1 Ln V1 → mFr α S S1 → Φ v S1)) : rX4_carriesOver F l0Ax l1Ax l2Ix l3Ax S Φ := by
  have el0A := el0A.symm
  subst el0A
  have el1A := el1A.symm
  subst el1A
  have el2I := el2I.symm
  subst el2I
  have el3A := el3A.symm
  subst el3A
  have ih := LX4_carriesOver_go  (α := α) (F := F) (v := v) (Ln := Ln) (Φ := Φ) (V1 := V1) F
  unfold mX4_carriesOver mX4_carriesOver_s at h
  unfold rX4_carriesOver rX4_carriesOver_s
  refine mIf h (by rw [show gEntry_kind S (α l1A) = V.fI l1A 0 from (mg_I (i := l1A) R (mO3 sl1A) rfl 0)]) (fun c10 h => ?_) (fun c10 h => ?_)
  · refine mIf h Iff.rfl (fun c11 h => ?_) (fun c11 h => ?_)
    · obtain ⟨v27, V28, hv27, h⟩ := mBW_some h
      refine LX4_carriesPairings hv27 R sl1A sl3A rfl rfl rfl (fun S28 R28 F28 => ?_)
      refine mGp h Iff.rfl (fun c12 h => ?_)
      obtain ⟨rfl, rfl⟩ := mRW h
      exact k _ R28 F28
    · exact ih _ _ _ _ _ R sl1A sl3A h (fun S1 R1 F1 => k S1 R1 F1)
  · exact ih _ _ _ _ _ R sl1A sl3A h (fun S1 R1 F1 => k S1 R1 F1)
def mX6_solveGames_b0 (F : Nat) (rec : Nat → (Nat → Nat) → Nat → Int32 → Int32 → Int32 → mV → Option (Unit × (Nat → Nat) × mV)) (Ln : Nat → Nat) (l1A : Nat) (l4I : Int32) (l5I : Int32) (l6I : Int32) (V : mV) : Option (Unit × (Nat → Nat) × mV) :=
  (if (V.fI 8 7) ≤ l6I then some ((), Ln, V) else (if l6I < 0 ∨ 8 ≤ (l6I).toNatClampNeg then none else (if (V.rI 88 (l6I).toNatClampNeg) = l5I then (mBW (mX6_leastWay F (l6I) (l5I) (l4I) V) fun v10 V11 => (mBA (mX9_add F Ln (l1A + 2) (v10) V11) fun v15 L16 V16 => (mLt (l6I + (1 : Int32)) fun x20 => (rec 0 L16 l1A (l4I) (l5I) (x20) V16)))) else (mBA (mX9_add F Ln (l1A + 2) ((-1 : Int32)) V) fun v4 L5 V5 => (mLt (l6I + (1 : Int32)) fun x9 => (rec 0 L5 l1A (l4I) (l5I) (x9) V5))))))
def mX6_solveGames_go (F : Nat) : Nat → Nat → (Nat → Nat) → Nat → Int32 → Int32 → Int32 → mV → Option (Unit × (Nat → Nat) × mV)
  | 0, _, _, _, _, _, _, _ => none
  | k' + 1, lab, Ln, l1A, l4I, l5I, l6I, V => if lab = 0 then mX6_solveGames_b0 F (mX6_solveGames_go F k') Ln l1A l4I l5I l6I V else none
def mX6_solveGames_s (F : Nat) (rec : Nat → (Nat → Nat) → Nat → Int32 → Int32 → Int32 → mV → Option (Unit × (Nat → Nat) × mV)) (Ln : Nat → Nat) (l1A : Nat) (V : mV) : Option (Unit × (Nat → Nat) × mV) :=
  (mBW (mX6_loadNodes F l1A V) fun v21 V22 => (mLt (((1 : Int32) <<< ((V22.fI 8 7) &&& 31)) - (1 : Int32)) fun x26 => (mBN (mX6_wonByFirst F 48 (x26) ((0 : Int32)) V22) fun v27 => (mBN (mX3_nodeAsked F l1A V22) fun v32 => (mBN (mX11_has F (v27) (v32)) fun v37 => (if v37 = 0 then (mBN (mJ6_bitCount_0f7a4 F (v27)) fun v43 => (mBW (mX3_tell F l1A ((0 : Int32)) (v43) V22) fun v48 V49 => (rec 0 Ln l1A (v32) ((1 : Int32)) ((0 : Int32)) V49))) else (mBN (mJ6_bitCount_0f7a4 F (v27)) fun v53 => (mBW (mX3_tell F l1A ((1 : Int32)) (v53) V22) fun v58 V59 => (rec 0 Ln l1A (v32) ((0 : Int32)) ((0 : Int32)) V59)))))))))
def mX6_solveGames (F : Nat) (Ln : Nat → Nat) (l1A : Nat) (V : mV) : Option (Unit × (Nat → Nat) × mV) := mX6_solveGames_s F (mX6_solveGames_go F F) Ln l1A V
set_option maxHeartbeats 4000000 in
set_option maxRecDepth 100000 in
theorem MX6_solveGames_go {F : Nat} {v : Unit} {Ln1 : Nat → Nat} {V1 : mV} : ∀ k' : Nat, (∀ (l1A : Nat) (l4I : Int32) (l5I : Int32) (l6I : Int32) (Ln : Nat → Nat) (V : mV), mX6_solveGames_go F k' 0 Ln l1A l4I l5I l6I V = some (v, Ln1, V1) → mP Ln1 ≤ mP Ln) := by
  intro k'
  induction k' with
  | zero => exact (fun _ _ _ _ _ _ h => by cases h)
  | succ k' ihM =>
    skip
    intro l1A l4I l5I l6I Ln V h
    rw [mX6_solveGames_go, if_pos rfl] at h
    unfold mX6_solveGames_b0 at h
    rcases mIf_some h with ⟨_, h⟩ | ⟨_, h⟩
    · cases h
      exact Nat.le_refl _
    · obtain ⟨_, h⟩ := mGd_some h
      rcases mIf_some h with ⟨_, h⟩ | ⟨_, h⟩
      · obtain ⟨_, _, _, h⟩ := mBW_some h
        obtain ⟨_, _, _, z1, h⟩ := mBA_some h
        refine Nat.le_trans ?_ (MX9_add z1)
        obtain ⟨_, _, h⟩ := mLt_some h
        exact ihM _ _ _ _ _ _ h
      · obtain ⟨_, _, _, z2, h⟩ := mBA_some h
        refine Nat.le_trans ?_ (MX9_add z2)
        obtain ⟨_, _, h⟩ := mLt_some h
        exact ihM _ _ _ _ _ _ h
set_option maxHeartbeats 4000000 in
set_option maxRecDepth 100000 in
theorem MX6_solveGames {F : Nat} {Ln Ln1 : Nat → Nat} {V V1 : mV} {v : Unit} {l1A : Nat} (h : mX6_solveGames F Ln l1A V = some (v, Ln1, V1)) : mP Ln1 ≤ mP Ln := by
  have ihM := MX6_solveGames_go (F := F) (v := v) (Ln1 := Ln1) (V1 := V1) F
  unfold mX6_solveGames mX6_solveGames_s at h
  obtain ⟨_, _, _, h⟩ := mBW_some h
  obtain ⟨_, _, h⟩ := mLt_some h
  obtain ⟨_, _, h⟩ := mBN_some h
  obtain ⟨_, _, h⟩ := mBN_some h
  obtain ⟨_, _, h⟩ := mBN_some h
  rcases mIf_some h with ⟨_, h⟩ | ⟨_, h⟩
  · obtain ⟨_, _, h⟩ := mBN_some h
    obtain ⟨_, _, _, h⟩ := mBW_some h
    exact ihM _ _ _ _ _ _ h
  · obtain ⟨_, _, h⟩ := mBN_some h
    obtain ⟨_, _, _, h⟩ := mBW_some h
    exact ihM _ _ _ _ _ _ h
set_option maxHeartbeats 4000000 in
set_option maxRecDepth 100000 in
theorem LX6_solveGames_go {α : Nat → Nat} {k0 n0 : Nat} {F : Nat} {v : Unit} {Ln1 : Nat → Nat} {V1 : mV} {Φ : (Unit → wPS → Prop)} : ∀ k' : Nat, (∀ (l1A : Nat) (l4I : Int32) (l5I : Int32) (l6I : Int32) (S : wPS) (V : mV) (Ln : Nat → Nat) (c s : Nat), mRel α S Ln V → mK l1A = 3 → mX6_solveGames_go F k' 0 Ln l1A l4I l5I l6I V = some (v, Ln1, V1) → c + (mP Ln - mP Ln1) / 16 ≤ k0 → s + (mP Ln - mP Ln1) ≤ n0 → (∀ S1, mRel α S1 Ln1 V1 → mFr α S S1 → Φ v S1) → rX6_solveGames_go F k0 n0 k' 0 c s (α 8) (α l1A) l4I l5I l6I S Φ) := by
  intro k'
  induction k' with
  | zero => exact (fun _ _ _ _ _ _ _ _ _ _ _ h _ _ _ => by cases h)
  | succ k' ih =>
    have ihM := MX6_solveGames_go (F := F) (v := v) (Ln1 := Ln1) (V1 := V1) k'
    intro l1A l4I l5I l6I S V Ln c s R sl1A h hk hn k
    rw [mX6_solveGames_go, if_pos rfl] at h
    rw [rX6_solveGames_go, if_pos rfl]
    unfold mX6_solveGames_b0 at h
    unfold rX6_solveGames_b0
    refine mIf h (by rw [show gMachines_size S (α 8) = V.fI 8 7 from (mg_I (i := 8) R (by decide) rfl 7)]) (fun c3 h => ?_) (fun c3 h => ?_)
    · obtain ⟨rfl, rfl, rfl⟩ := mRA3 h
      exact k _ R mFr.rf
    · refine mGd h (by rw [show S.len (wkAd (gMachines_owners S (α 8))) = 8 from (mg_len (i := 88) R (mA13 rfl) (mg_A (t := 88) R rfl rfl))]) (fun c4 h => ?_)
      refine mIf h (by rw [show S.rI (wkAd (gMachines_owners S (α 8))) (l6I).toNatClampNeg = V.rI 88 (l6I).toNatClampNeg from (mg_rI (i := 88) R (mA13 rfl) (mg_A (t := 88) R rfl rfl) rfl)]) (fun c5 h => ?_) (fun c5 h => ?_)
      · obtain ⟨v10, V11, hv10, h⟩ := mBW_some h
        refine LX6_leastWay hv10 R rfl rfl rfl rfl (fun S11 R11 F11 => ?_)
        obtain ⟨v15, L16, V16, hv15, h⟩ := mBA_some h
        have mv15 : mP L16 ≤ mP Ln := MX9_add hv15
        have qv15 : mP Ln1 ≤ mP L16 := by
          obtain ⟨_, _, h⟩ := mLt_some h
          exact ihM _ _ _ _ _ _ h
        refine ⟨(mP Ln - mP L16) / 16, mP Ln - mP L16, by omega, by omega, ?_⟩
        refine LX9_add hv15 R11 (mKe2 sl1A) (mg_A (t := (l1A + 2)) R (mRe sl1A rfl) rfl) rfl (by omega) (by omega) (fun S16 R16 F16 => ?_)
        refine mLet h rfl (fun x20 ex20 h => ?_)
        exact ih _ _ _ _ _ _ _ _ _ R16 sl1A h (by omega) (by omega) (fun S1 R1 F1 => k S1 R1 (F11.tr (F16.tr F1)))
      · obtain ⟨v4, L5, V5, hv4, h⟩ := mBA_some h
        have mv4 : mP L5 ≤ mP Ln := MX9_add hv4
        have qv4 : mP Ln1 ≤ mP L5 := by
          obtain ⟨_, _, h⟩ := mLt_some h
          exact ihM _ _ _ _ _ _ h
        refine ⟨(mP Ln - mP L5) / 16, mP Ln - mP L5, by omega, by omega, ?_⟩
        refine LX9_add hv4 R (mKe2 sl1A) (mg_A (t := (l1A + 2)) R (mRe sl1A rfl) rfl) rfl (by omega) (by omega) (fun S5 R5 F5 => ?_)
        refine mLet h rfl (fun x9 ex9 h => ?_)
        exact ih _ _ _ _ _ _ _ _ _ R5 sl1A h (by omega) (by omega) (fun S1 R1 F1 => k S1 R1 (F5.tr F1))
set_option maxHeartbeats 4000000 in
set_option maxRecDepth 100000 in
theorem LX6_solveGames {α : Nat → Nat} {F : Nat} {S : wPS} {Ln Ln1 : Nat → Nat} {V V1 : mV} {v : Unit} {Φ : (Unit → wPS → Prop)} {l0Ax : Nat} {l1Ax : Nat} {l1A : Nat} {k0 n0 : Nat} (h : mX6_solveGames F Ln l1A V = some (v, Ln1, V1)) (R : mRel α S Ln V) (sl1A : mK l1A = 3) (el0A : l0Ax = α 8) (el1A : l1Ax = α l1A) (hk : (mP Ln - mP Ln1) / 16 ≤ k0) (hn : mP Ln - mP Ln1 ≤ n0) (k : (∀ S1, mRel α S1 Ln1 V1 → mFr α S S1 → Φ v S1)) : rX6_solveGames F k0 n0 l0Ax l1Ax S Φ := by
  have el0A := el0A.symm
  subst el0A
  have el1A := el1A.symm
  subst el1A
  have ih := LX6_solveGames_go  (α := α) (F := F) (v := v) (k0 := k0) (n0 := n0) (Ln1 := Ln1) (Φ := Φ) (V1 := V1) F
  have ihM := MX6_solveGames_go (F := F) (v := v) (Ln1 := Ln1) (V1 := V1) F
  unfold mX6_solveGames mX6_solveGames_s at h
  unfold rX6_solveGames rX6_solveGames_s
  obtain ⟨v21, V22, hv21, h⟩ := mBW_some h
  refine LX6_loadNodes hv21 R sl1A rfl rfl (fun S22 R22 F22 => ?_)
  refine mLet h (by rw [show gMachines_size S22 (α 8) = V22.fI 8 7 from (mg_I (i := 8) R22 (by decide) rfl 7)]) (fun x26 ex26 h => ?_)
  obtain ⟨v27, hv27, h⟩ := mBN_some h
  refine LX6_wonByFirst hv27 R22 rfl rfl rfl ?_
  obtain ⟨v32, hv32, h⟩ := mBN_some h
  refine LX3_nodeAsked hv32 R22 sl1A rfl ?_
  obtain ⟨v37, hv37, h⟩ := mBN_some h
  refine LX11_has hv37 rfl rfl ?_
  refine mIf h Iff.rfl (fun c6 h => ?_) (fun c6 h => ?_)
  · obtain ⟨v43, hv43, h⟩ := mBN_some h
    refine LJ6_bitCount_0f7a4 hv43 rfl ?_
    obtain ⟨v48, V49, hv48, h⟩ := mBW_some h
    refine LX3_tell hv48 R22 sl1A rfl rfl rfl (fun S49 R49 F49 => ?_)
    exact ih _ _ _ _ _ _ _ _ _ R49 sl1A h (by omega) (by omega) (fun S1 R1 F1 => k S1 R1 (F22.tr (F49.tr F1)))
  · obtain ⟨v53, hv53, h⟩ := mBN_some h
    refine LJ6_bitCount_0f7a4 hv53 rfl ?_
    obtain ⟨v58, V59, hv58, h⟩ := mBW_some h
    refine LX3_tell hv58 R22 sl1A rfl rfl rfl (fun S59 R59 F59 => ?_)
    exact ih _ _ _ _ _ _ _ _ _ R59 sl1A h (by omega) (by omega) (fun S1 R1 F1 => k S1 R1 (F22.tr (F59.tr F1)))
def mX7_solveFlows_b0 (F : Nat) (rec : Nat → (Nat → Nat) → Nat → Int32 → mV → Option (Unit × (Nat → Nat) × mV)) (Ln : Nat → Nat) (l1A : Nat) (l4I : Int32) (V : mV) : Option (Unit × (Nat → Nat) × mV) :=
  (if (V.fI l1A 8) ≤ l4I then (mBW (mX7_lowerAll F V) fun v2 V3 => (rec 1 Ln l1A ((0 : Int32)) V3)) else (mBW (mX7_leadsOn F ((0 : Int32)) (((V.fI 2 8) - (1 : Int32))) ((0 : Int32)) V) fun v7 V8 => (mLt (l4I + (1 : Int32)) fun x12 => (rec 0 Ln l1A (x12) V8))))
def mX7_solveFlows_b1 (F : Nat) (rec : Nat → (Nat → Nat) → Nat → Int32 → mV → Option (Unit × (Nat → Nat) × mV)) (Ln : Nat → Nat) (l1A : Nat) (l4I : Int32) (V : mV) : Option (Unit × (Nat → Nat) × mV) :=
  (if (V.fI 2 9) ≤ l4I then some ((), Ln, V) else (if l4I < 0 ∨ 10 ≤ (l4I).toNatClampNeg then none else (mBA (mX9_add F Ln (l1A + 2) ((V.rI 24 (l4I).toNatClampNeg)) V) fun v15 L16 V16 => (mLt (l4I + (1 : Int32)) fun x20 => (rec 1 L16 l1A (x20) V16)))))
def mX7_solveFlows_b2 (F : Nat) (rec : Nat → (Nat → Nat) → Nat → Int32 → mV → Option (Unit × (Nat → Nat) × mV)) (Ln : Nat → Nat) (l1A : Nat) (l4I : Int32) (V : mV) : Option (Unit × (Nat → Nat) × mV) :=
  (if (V.fI 2 8) ≤ l4I then some ((), Ln, V) else (mBN (mX11_has F ((V.fI 2 10)) (l4I)) fun v22 => (if v22 = 0 then (mLt (l4I + (1 : Int32)) fun x28 => (rec 2 Ln l1A (x28) V)) else (mBA (mX9_add F Ln (l1A + 2) (l4I) V) fun v29 L30 V30 => (mLt (l4I + (1 : Int32)) fun x34 => (rec 2 L30 l1A (x34) V30))))))
def mX7_solveFlows_go (F : Nat) : Nat → Nat → (Nat → Nat) → Nat → Int32 → mV → Option (Unit × (Nat → Nat) × mV)
  | 0, _, _, _, _, _ => none
  | k' + 1, lab, Ln, l1A, l4I, V => if lab = 0 then mX7_solveFlows_b0 F (mX7_solveFlows_go F k') Ln l1A l4I V else if lab = 1 then mX7_solveFlows_b1 F (mX7_solveFlows_go F k') Ln l1A l4I V else if lab = 2 then mX7_solveFlows_b2 F (mX7_solveFlows_go F k') Ln l1A l4I V else none
def mX7_solveFlows_s (F : Nat) (rec : Nat → (Nat → Nat) → Nat → Int32 → mV → Option (Unit × (Nat → Nat) × mV)) (Ln : Nat → Nat) (l1A : Nat) (V : mV) : Option (Unit × (Nat → Nat) × mV) :=
  (mBW (mX7_loadFlows F l1A V) fun v35 V36 => (mBW (mX7_greatest F V36) fun v40 V41 => (if v40 < (V41.fI l1A 8) then (mBW (mX3_tell F l1A ((0 : Int32)) (v40) V41) fun v46 V47 => (rec 2 Ln l1A ((0 : Int32)) V47)) else (mBW (mX3_tell F l1A ((1 : Int32)) (v40) V41) fun v51 V52 => (mBW (mJ7_fill_53178 F 24 ((0 : Int32)) V52) fun v56 V57 => (rec 0 Ln l1A ((0 : Int32)) V57))))))
def mX7_solveFlows (F : Nat) (Ln : Nat → Nat) (l1A : Nat) (V : mV) : Option (Unit × (Nat → Nat) × mV) := mX7_solveFlows_s F (mX7_solveFlows_go F F) Ln l1A V
set_option maxHeartbeats 4000000 in
set_option maxRecDepth 100000 in
theorem MX7_solveFlows_go {F : Nat} {v : Unit} {Ln1 : Nat → Nat} {V1 : mV} : ∀ k' : Nat, (∀ (l1A : Nat) (l4I : Int32) (Ln : Nat → Nat) (V : mV), mX7_solveFlows_go F k' 0 Ln l1A l4I V = some (v, Ln1, V1) → mP Ln1 ≤ mP Ln) ∧ (∀ (l1A : Nat) (l4I : Int32) (Ln : Nat → Nat) (V : mV), mX7_solveFlows_go F k' 1 Ln l1A l4I V = some (v, Ln1, V1) → mP Ln1 ≤ mP Ln) ∧ (∀ (l1A : Nat) (l4I : Int32) (Ln : Nat → Nat) (V : mV), mX7_solveFlows_go F k' 2 Ln l1A l4I V = some (v, Ln1, V1) → mP Ln1 ≤ mP Ln) := by
  intro k'
  induction k' with
  | zero => exact ⟨(fun _ _ _ _ h => by cases h), (fun _ _ _ _ h => by cases h), (fun _ _ _ _ h => by cases h)⟩
  | succ k' ihM =>
    refine ⟨?_, ?_, ?_⟩
    · intro l1A l4I Ln V h
      rw [mX7_solveFlows_go, if_pos rfl] at h
      unfold mX7_solveFlows_b0 at h
      rcases mIf_some h with ⟨_, h⟩ | ⟨_, h⟩
      · obtain ⟨_, _, _, h⟩ := mBW_some h
        exact ihM.2.1 _ _ _ _ h
      · obtain ⟨_, _, _, h⟩ := mBW_some h
        obtain ⟨_, _, h⟩ := mLt_some h
        exact ihM.1 _ _ _ _ h
    · intro l1A l4I Ln V h
      rw [mX7_solveFlows_go, if_neg (by decide), if_pos rfl] at h
      unfold mX7_solveFlows_b1 at h
      rcases mIf_some h with ⟨_, h⟩ | ⟨_, h⟩
      · cases h
        exact Nat.le_refl _
      · obtain ⟨_, h⟩ := mGd_some h
        obtain ⟨_, _, _, z1, h⟩ := mBA_some h
        refine Nat.le_trans ?_ (MX9_add z1)
        obtain ⟨_, _, h⟩ := mLt_some h
        exact ihM.2.1 _ _ _ _ h
    · intro l1A l4I Ln V h
      rw [mX7_solveFlows_go, if_neg (by decide), if_neg (by decide), if_pos rfl] at h
      unfold mX7_solveFlows_b2 at h
      rcases mIf_some h with ⟨_, h⟩ | ⟨_, h⟩
      · cases h
        exact Nat.le_refl _
      · obtain ⟨_, _, h⟩ := mBN_some h
        rcases mIf_some h with ⟨_, h⟩ | ⟨_, h⟩
        · obtain ⟨_, _, h⟩ := mLt_some h
          exact ihM.2.2 _ _ _ _ h
        · obtain ⟨_, _, _, z2, h⟩ := mBA_some h
          refine Nat.le_trans ?_ (MX9_add z2)
          obtain ⟨_, _, h⟩ := mLt_some h
          exact ihM.2.2 _ _ _ _ h
set_option maxHeartbeats 4000000 in
set_option maxRecDepth 100000 in
theorem MX7_solveFlows {F : Nat} {Ln Ln1 : Nat → Nat} {V V1 : mV} {v : Unit} {l1A : Nat} (h : mX7_solveFlows F Ln l1A V = some (v, Ln1, V1)) : mP Ln1 ≤ mP Ln := by
  have ihM := MX7_solveFlows_go (F := F) (v := v) (Ln1 := Ln1) (V1 := V1) F
  unfold mX7_solveFlows mX7_solveFlows_s at h
  obtain ⟨_, _, _, h⟩ := mBW_some h
  obtain ⟨_, _, _, h⟩ := mBW_some h
  rcases mIf_some h with ⟨_, h⟩ | ⟨_, h⟩
  · obtain ⟨_, _, _, h⟩ := mBW_some h
    exact ihM.2.2 _ _ _ _ h
  · obtain ⟨_, _, _, h⟩ := mBW_some h
    obtain ⟨_, _, _, h⟩ := mBW_some h
    exact ihM.1 _ _ _ _ h
set_option maxHeartbeats 4000000 in
set_option maxRecDepth 100000 in
theorem LX7_solveFlows_go {α : Nat → Nat} {k0 n0 : Nat} {F : Nat} {v : Unit} {Ln1 : Nat → Nat} {V1 : mV} {Φ : (Unit → wPS → Prop)} : ∀ k' : Nat, (∀ (l1A : Nat) (l4I : Int32) (S : wPS) (V : mV) (Ln : Nat → Nat) (c s : Nat), mRel α S Ln V → mK l1A = 3 → mX7_solveFlows_go F k' 0 Ln l1A l4I V = some (v, Ln1, V1) → c + (mP Ln - mP Ln1) / 16 ≤ k0 → s + (mP Ln - mP Ln1) ≤ n0 → (∀ S1, mRel α S1 Ln1 V1 → mFr α S S1 → Φ v S1) → rX7_solveFlows_go F k0 n0 k' 0 c s (α 2) (α l1A) l4I S Φ) ∧ (∀ (l1A : Nat) (l4I : Int32) (S : wPS) (V : mV) (Ln : Nat → Nat) (c s : Nat), mRel α S Ln V → mK l1A = 3 → mX7_solveFlows_go F k' 1 Ln l1A l4I V = some (v, Ln1, V1) → c + (mP Ln - mP Ln1) / 16 ≤ k0 → s + (mP Ln - mP Ln1) ≤ n0 → (∀ S1, mRel α S1 Ln1 V1 → mFr α S S1 → Φ v S1) → rX7_solveFlows_go F k0 n0 k' 1 c s (α 2) (α l1A) l4I S Φ) ∧ (∀ (l1A : Nat) (l4I : Int32) (S : wPS) (V : mV) (Ln : Nat → Nat) (c s : Nat), mRel α S Ln V → mK l1A = 3 → mX7_solveFlows_go F k' 2 Ln l1A l4I V = some (v, Ln1, V1) → c + (mP Ln - mP Ln1) / 16 ≤ k0 → s + (mP Ln - mP Ln1) ≤ n0 → (∀ S1, mRel α S1 Ln1 V1 → mFr α S S1 → Φ v S1) → rX7_solveFlows_go F k0 n0 k' 2 c s (α 2) (α l1A) l4I S Φ) := by
  intro k'
  induction k' with
  | zero => exact ⟨(fun _ _ _ _ _ _ _ _ _ h _ _ _ => by cases h), (fun _ _ _ _ _ _ _ _ _ h _ _ _ => by cases h), (fun _ _ _ _ _ _ _ _ _ h _ _ _ => by cases h)⟩
  | succ k' ih =>
    have ihM := MX7_solveFlows_go (F := F) (v := v) (Ln1 := Ln1) (V1 := V1) k'
    refine ⟨?_, ?_, ?_⟩
    · intro l1A l4I S V Ln c s R sl1A h hk hn k
      rw [mX7_solveFlows_go, if_pos rfl] at h
      rw [rX7_solveFlows_go, if_pos rfl]
      unfold mX7_solveFlows_b0 at h
      unfold rX7_solveFlows_b0
      refine mIf h (by rw [show gEntry_boundNow S (α l1A) = V.fI l1A 8 from (mg_I (i := l1A) R (mO3 sl1A) rfl 8)]) (fun c3 h => ?_) (fun c3 h => ?_)
      · obtain ⟨v2, V3, hv2, h⟩ := mBW_some h
        refine LX7_lowerAll hv2 R rfl (fun S3 R3 F3 => ?_)
        exact ih.2.1 _ _ _ _ _ _ _ R3 sl1A h (by omega) (by omega) (fun S1 R1 F1 => k S1 R1 (F3.tr F1))
      · obtain ⟨v7, V8, hv7, h⟩ := mBW_some h
        refine LX7_leadsOn hv7 R rfl rfl (by rw [show gNetworks_nodeCount S (α 2) = V.fI 2 8 from (mg_I (i := 2) R (by decide) rfl 8)]) rfl (fun S8 R8 F8 => ?_)
        refine mLet h rfl (fun x12 ex12 h => ?_)
        exact ih.1 _ _ _ _ _ _ _ R8 sl1A h (by omega) (by omega) (fun S1 R1 F1 => k S1 R1 (F8.tr F1))
    · intro l1A l4I S V Ln c s R sl1A h hk hn k
      rw [mX7_solveFlows_go, if_neg (by decide), if_pos rfl] at h
      rw [rX7_solveFlows_go, if_neg (by decide), if_pos rfl]
      unfold mX7_solveFlows_b1 at h
      unfold rX7_solveFlows_b1
      refine mIf h (by rw [show gNetworks_itemCount S (α 2) = V.fI 2 9 from (mg_I (i := 2) R (by decide) rfl 9)]) (fun c4 h => ?_) (fun c4 h => ?_)
      · obtain ⟨rfl, rfl, rfl⟩ := mRA3 h
        exact k _ R mFr.rf
      · refine mGd h (by rw [show S.len (wkAd (gNetworks_flow S (α 2))) = 10 from (mg_len (i := 24) R (mA13 rfl) (mg_A (t := 24) R rfl rfl))]) (fun c5 h => ?_)
        obtain ⟨v15, L16, V16, hv15, h⟩ := mBA_some h
        have mv15 : mP L16 ≤ mP Ln := MX9_add hv15
        have qv15 : mP Ln1 ≤ mP L16 := by
          obtain ⟨_, _, h⟩ := mLt_some h
          exact ihM.2.1 _ _ _ _ h
        refine ⟨(mP Ln - mP L16) / 16, mP Ln - mP L16, by omega, by omega, ?_⟩
        refine LX9_add hv15 R (mKe2 sl1A) (mg_A (t := (l1A + 2)) R (mRe sl1A rfl) rfl) (by rw [show S.rI (wkAd (gNetworks_flow S (α 2))) (l4I).toNatClampNeg = V.rI 24 (l4I).toNatClampNeg from (mg_rI (i := 24) R (mA13 rfl) (mg_A (t := 24) R rfl rfl) rfl)]) (by omega) (by omega) (fun S16 R16 F16 => ?_)
        refine mLet h rfl (fun x20 ex20 h => ?_)
        exact ih.2.1 _ _ _ _ _ _ _ R16 sl1A h (by omega) (by omega) (fun S1 R1 F1 => k S1 R1 (F16.tr F1))
    · intro l1A l4I S V Ln c s R sl1A h hk hn k
      rw [mX7_solveFlows_go, if_neg (by decide), if_neg (by decide), if_pos rfl] at h
      rw [rX7_solveFlows_go, if_neg (by decide), if_neg (by decide), if_pos rfl]
      unfold mX7_solveFlows_b2 at h
      unfold rX7_solveFlows_b2
      refine mIf h (by rw [show gNetworks_nodeCount S (α 2) = V.fI 2 8 from (mg_I (i := 2) R (by decide) rfl 8)]) (fun c6 h => ?_) (fun c6 h => ?_)
      · obtain ⟨rfl, rfl, rfl⟩ := mRA3 h
        exact k _ R mFr.rf
      · obtain ⟨v22, hv22, h⟩ := mBN_some h
        refine LX11_has hv22 (by rw [show gNetworks_reached S (α 2) = V.fI 2 10 from (mg_I (i := 2) R (by decide) rfl 10)]) rfl ?_
        refine mIf h Iff.rfl (fun c7 h => ?_) (fun c7 h => ?_)
        · refine mLet h rfl (fun x28 ex28 h => ?_)
          exact ih.2.2 _ _ _ _ _ _ _ R sl1A h (by omega) (by omega) (fun S1 R1 F1 => k S1 R1 F1)
        · obtain ⟨v29, L30, V30, hv29, h⟩ := mBA_some h
          have mv29 : mP L30 ≤ mP Ln := MX9_add hv29
          have qv29 : mP Ln1 ≤ mP L30 := by
            obtain ⟨_, _, h⟩ := mLt_some h
            exact ihM.2.2 _ _ _ _ h
          refine ⟨(mP Ln - mP L30) / 16, mP Ln - mP L30, by omega, by omega, ?_⟩
          refine LX9_add hv29 R (mKe2 sl1A) (mg_A (t := (l1A + 2)) R (mRe sl1A rfl) rfl) rfl (by omega) (by omega) (fun S30 R30 F30 => ?_)
          refine mLet h rfl (fun x34 ex34 h => ?_)
          exact ih.2.2 _ _ _ _ _ _ _ R30 sl1A h (by omega) (by omega) (fun S1 R1 F1 => k S1 R1 (F30.tr F1))
set_option maxHeartbeats 4000000 in
set_option maxRecDepth 100000 in
theorem LX7_solveFlows {α : Nat → Nat} {F : Nat} {S : wPS} {Ln Ln1 : Nat → Nat} {V V1 : mV} {v : Unit} {Φ : (Unit → wPS → Prop)} {l0Ax : Nat} {l1Ax : Nat} {l1A : Nat} {k0 n0 : Nat} (h : mX7_solveFlows F Ln l1A V = some (v, Ln1, V1)) (R : mRel α S Ln V) (sl1A : mK l1A = 3) (el0A : l0Ax = α 2) (el1A : l1Ax = α l1A) (hk : (mP Ln - mP Ln1) / 16 ≤ k0) (hn : mP Ln - mP Ln1 ≤ n0) (k : (∀ S1, mRel α S1 Ln1 V1 → mFr α S S1 → Φ v S1)) : rX7_solveFlows F k0 n0 l0Ax l1Ax S Φ := by
  have el0A := el0A.symm
  subst el0A
  have el1A := el1A.symm
  subst el1A
  have ih := LX7_solveFlows_go  (α := α) (F := F) (v := v) (k0 := k0) (n0 := n0) (Ln1 := Ln1) (Φ := Φ) (V1 := V1) F
  have ihM := MX7_solveFlows_go (F := F) (v := v) (Ln1 := Ln1) (V1 := V1) F
  unfold mX7_solveFlows mX7_solveFlows_s at h
  unfold rX7_solveFlows rX7_solveFlows_s
  obtain ⟨v35, V36, hv35, h⟩ := mBW_some h
  refine LX7_loadFlows hv35 R sl1A rfl rfl (fun S36 R36 F36 => ?_)
  obtain ⟨v40, V41, hv40, h⟩ := mBW_some h
  refine LX7_greatest hv40 R36 rfl (fun S41 R41 F41 => ?_)
  refine mIf h (by rw [show gEntry_boundNow S41 (α l1A) = V41.fI l1A 8 from (mg_I (i := l1A) R41 (mO3 sl1A) rfl 8)]) (fun c8 h => ?_) (fun c8 h => ?_)
  · obtain ⟨v46, V47, hv46, h⟩ := mBW_some h
    refine LX3_tell hv46 R41 sl1A rfl rfl rfl (fun S47 R47 F47 => ?_)
    exact ih.2.2 _ _ _ _ _ _ _ R47 sl1A h (by omega) (by omega) (fun S1 R1 F1 => k S1 R1 (F36.tr (F41.tr (F47.tr F1))))
  · obtain ⟨v51, V52, hv51, h⟩ := mBW_some h
    refine LX3_tell hv51 R41 sl1A rfl rfl rfl (fun S52 R52 F52 => ?_)
    obtain ⟨v56, V57, hv56, h⟩ := mBW_some h
    refine LJ7_fill_53178 hv56 R52 rfl (mg_A (t := 24) R52 rfl rfl) rfl (fun S57 R57 F57 => ?_)
    exact ih.1 _ _ _ _ _ _ _ R57 sl1A h (by omega) (by omega) (fun S1 R1 F1 => k S1 R1 (F36.tr (F41.tr (F52.tr (F57.tr F1)))))
end
