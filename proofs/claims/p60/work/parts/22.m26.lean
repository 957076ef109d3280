/-! LIFTED BY PROGRAM (lift.py): X2_writeCore, X2_judgeCore, X4_carriesPairings, X4_bringBack, X5_solve. -/
section
def mX2_writeCore_b0 (F : Nat) (rec : Nat → (Nat → Nat) → Nat → Int32 → Int32 → mV → Option (Unit × (Nat → Nat) × mV)) (Ln : Nat → Nat) (l1A : Nat) (l3I : Int32) (l4I : Int32) (V : mV) : Option (Unit × (Nat → Nat) × mV) :=
  (if l4I < 0 then (mBW (mX2_loadEdges F l1A (l3I) V) fun v2 V3 => (mBN (mX2_countBranches F ((2 : Int32)) V3) fun v7 => (if v7 = (5 : Int32) then (mBA (mX9_add F Ln (l1A + 2) ((5 : Int32)) V3) fun v18 L19 V19 => (rec 1 L19 l1A (l3I) ((0 : Int32)) V19)) else (mBA (mX9_add F Ln (l1A + 2) ((3 : Int32)) V3) fun v13 L14 V14 => (rec 1 L14 l1A (l3I) ((0 : Int32)) V14))))) else (mBN (mX11_has F (l3I) (l4I)) fun v23 => (if v23 = 0 then (mLt (l4I + (-1 : Int32)) fun x29 => (rec 0 Ln l1A (l3I) (x29) V)) else (mBW (mX2_loadEdges F l1A ((l3I &&& (((1 : Int32) <<< (l4I &&& 31)) ^^^ (-1 : Int32)))) V) fun v30 V31 => (mBW (mX2_fillsFrom F 48 ((0 : Int32)) V31) fun v35 V36 => (if v35 = 0 then (mLt (l3I &&& (((1 : Int32) <<< (l4I &&& 31)) ^^^ (-1 : Int32))) fun x42 => (mLt (l4I + (-1 : Int32)) fun x43 => (rec 0 Ln l1A (x42) (x43) V36))) else (mLt (l4I + (-1 : Int32)) fun x41 => (rec 0 Ln l1A (l3I) (x41) V36))))))))
def mX2_writeCore_b1 (F : Nat) (rec : Nat → (Nat → Nat) → Nat → Int32 → Int32 → mV → Option (Unit × (Nat → Nat) × mV)) (Ln : Nat → Nat) (l1A : Nat) (l3I : Int32) (l4I : Int32) (V : mV) : Option (Unit × (Nat → Nat) × mV) :=
  (if (V.fI l1A 6) ≤ l4I then some ((), Ln, V) else (mBN (mX11_has F (l3I) (l4I)) fun v45 => (if v45 = 0 then (mLt (l4I + (1 : Int32)) fun x51 => (rec 1 Ln l1A (l3I) (x51) V)) else (mBA (mX9_add F Ln (l1A + 2) (l4I) V) fun v52 L53 V53 => (mLt (l4I + (1 : Int32)) fun x57 => (rec 1 L53 l1A (l3I) (x57) V53))))))
def mX2_writeCore_go (F : Nat) : Nat → Nat → (Nat → Nat) → Nat → Int32 → Int32 → mV → Option (Unit × (Nat → Nat) × mV)
  | 0, _, _, _, _, _, _ => none
  | k' + 1, lab, Ln, l1A, l3I, l4I, V => if lab = 0 then mX2_writeCore_b0 F (mX2_writeCore_go F k') Ln l1A l3I l4I V else if lab = 1 then mX2_writeCore_b1 F (mX2_writeCore_go F k') Ln l1A l3I l4I V else none
def mX2_writeCore_s (F : Nat) (rec : Nat → (Nat → Nat) → Nat → Int32 → Int32 → mV → Option (Unit × (Nat → Nat) × mV)) (Ln : Nat → Nat) (l1A : Nat) (l2I : Int32) (V : mV) : Option (Unit × (Nat → Nat) × mV) :=
  (mLt ((V.fI l1A 6) - (1 : Int32)) fun x58 => (rec 0 Ln l1A (l2I) (x58) V))
def mX2_writeCore (F : Nat) (Ln : Nat → Nat) (l1A : Nat) (l2I : Int32) (V : mV) : Option (Unit × (Nat → Nat) × mV) := mX2_writeCore_s F (mX2_writeCore_go F F) Ln l1A l2I V
set_option maxHeartbeats 4000000 in
set_option maxRecDepth 100000 in
theorem MX2_writeCore_go {F : Nat} {v : Unit} {Ln1 : Nat → Nat} {V1 : mV} : ∀ k' : Nat, (∀ (l1A : Nat) (l3I : Int32) (l4I : Int32) (Ln : Nat → Nat) (V : mV), mX2_writeCore_go F k' 0 Ln l1A l3I l4I V = some (v, Ln1, V1) → mP Ln1 ≤ mP Ln) ∧ (∀ (l1A : Nat) (l3I : Int32) (l4I : Int32) (Ln : Nat → Nat) (V : mV), mX2_writeCore_go F k' 1 Ln l1A l3I l4I V = some (v, Ln1, V1) → mP Ln1 ≤ mP Ln) := by
  intro k'
  induction k' with
  | zero => exact ⟨(fun _ _ _ _ _ h => by cases h), (fun _ _ _ _ _ h => by cases h)⟩
  | succ k' ihM =>
    refine ⟨?_, ?_⟩
    · intro l1A l3I l4I Ln V h
      rw [mX2_writeCore_go, if_pos rfl] at h
      unfold mX2_writeCore_b0 at h
      rcases mIf_some h with ⟨_, h⟩ | ⟨_, h⟩
      · obtain ⟨_, _, _, h⟩ := mBW_some h
        obtain ⟨_, _, h⟩ := mBN_some h
        rcases mIf_some h with ⟨_, h⟩ | ⟨_, h⟩
        · obtain ⟨_, _, _, z1, h⟩ := mBA_some h
          refine Nat.le_trans ?_ (MX9_add z1)
          exact ihM.2 _ _ _ _ _ h
        · obtain ⟨_, _, _, z2, h⟩ := mBA_some h
          refine Nat.le_trans ?_ (MX9_add z2)
          exact ihM.2 _ _ _ _ _ h
      · obtain ⟨_, _, h⟩ := mBN_some h
        rcases mIf_some h with ⟨_, h⟩ | ⟨_, h⟩
        · obtain ⟨_, _, h⟩ := mLt_some h
          exact ihM.1 _ _ _ _ _ h
        · obtain ⟨_, _, _, h⟩ := mBW_some h
          obtain ⟨_, _, _, h⟩ := mBW_some h
          rcases mIf_some h with ⟨_, h⟩ | ⟨_, h⟩
          · obtain ⟨_, _, h⟩ := mLt_some h
            obtain ⟨_, _, h⟩ := mLt_some h
            exact ihM.1 _ _ _ _ _ h
          · obtain ⟨_, _, h⟩ := mLt_some h
            exact ihM.1 _ _ _ _ _ h
    · intro l1A l3I l4I Ln V h
      rw [mX2_writeCore_go, if_neg (by decide), if_pos rfl] at h
      unfold mX2_writeCore_b1 at h
      rcases mIf_some h with ⟨_, h⟩ | ⟨_, h⟩
      · cases h
        exact Nat.le_refl _
      · obtain ⟨_, _, h⟩ := mBN_some h
        rcases mIf_some h with ⟨_, h⟩ | ⟨_, h⟩
        · obtain ⟨_, _, h⟩ := mLt_some h
          exact ihM.2 _ _ _ _ _ h
        · obtain ⟨_, _, _, z3, h⟩ := mBA_some h
          refine Nat.le_trans ?_ (MX9_add z3)
          obtain ⟨_, _, h⟩ := mLt_some h
          exact ihM.2 _ _ _ _ _ h
set_option maxHeartbeats 4000000 in
set_option maxRecDepth 100000 in
theorem MX2_writeCore {F : Nat} {Ln Ln1 : Nat → Nat} {V V1 : mV} {v : Unit} {l1A : Nat} {l2I : Int32} (h : mX2_writeCore F Ln l1A l2I V = some (v, Ln1, V1)) : mP Ln1 ≤ mP Ln := by
  have ihM := MX2_writeCore_go (F := F) (v := v) (Ln1 := Ln1) (V1 := V1) F
  unfold mX2_writeCore mX2_writeCore_s at h
  obtain ⟨_, _, h⟩ := mLt_some h
  exact ihM.1 _ _ _ _ _ h
set_option maxHeartbeats 4000000 in
set_option maxRecDepth 100000 in
theorem LX2_writeCore_go {α : Nat → Nat} {k0 n0 : Nat} {F : Nat} {v : Unit} {Ln1 : Nat → Nat} {V1 : mV} {Φ : (Unit → wPS → Prop)} : ∀ k' : Nat, (∀ (l1A : Nat) (l3I : Int32) (l4I : Int32) (S : wPS) (V : mV) (Ln : Nat → Nat) (c s : Nat), mRel α S Ln V → mK l1A = 3 → mX2_writeCore_go F k' 0 Ln l1A l3I l4I V = some (v, Ln1, V1) → c + (mP Ln - mP Ln1) / 16 ≤ k0 → s + (mP Ln - mP Ln1) ≤ n0 → (∀ S1, mRel α S1 Ln1 V1 → mFr α S S1 → Φ v S1) → rX2_writeCore_go F k0 n0 k' 0 c s (α 3) (α l1A) l3I l4I S Φ) ∧ (∀ (l1A : Nat) (l3I : Int32) (l4I : Int32) (S : wPS) (V : mV) (Ln : Nat → Nat) (c s : Nat), mRel α S Ln V → mK l1A = 3 → mX2_writeCore_go F k' 1 Ln l1A l3I l4I V = some (v, Ln1, V1) → c + (mP Ln - mP Ln1) / 16 ≤ k0 → s + (mP Ln - mP Ln1) ≤ n0 → (∀ S1, mRel α S1 Ln1 V1 → mFr α S S1 → Φ v S1) → rX2_writeCore_go F k0 n0 k' 1 c s 0 (α l1A) l3I l4I S Φ) := by
  intro k'
  induction k' with
  | zero => exact ⟨(fun _ _ _ _ _ _ _ _ _ _ h _ _ _ => by cases h), (fun _ _ _ _ _ _ _ _ _ _ h _ _ _ => by cases h)⟩
  | succ k' ih =>
    have ihM := MX2_writeCore_go (F := F) (v := v) (Ln1 := Ln1) (V1 := V1) k'
    refine ⟨?_, ?_⟩
    · intro l1A l3I l4I S V Ln c s R sl1A h hk hn k
      rw [mX2_writeCore_go, if_pos rfl] at h
      rw [rX2_writeCore_go, if_pos rfl]
      unfold mX2_writeCore_b0 at h
      unfold rX2_writeCore_b0
      refine mIf h Iff.rfl (fun c4 h => ?_) (fun c4 h => ?_)
      · obtain ⟨v2, V3, hv2, h⟩ := mBW_some h
        refine LX2_loadEdges hv2 R sl1A rfl rfl rfl (fun S3 R3 F3 => ?_)
        obtain ⟨v7, hv7, h⟩ := mBN_some h
        refine LX2_countBranches hv7 R3 rfl rfl ?_
        refine mIf h Iff.rfl (fun c5 h => ?_) (fun c5 h => ?_)
        · obtain ⟨v18, L19, V19, hv18, h⟩ := mBA_some h
          have mv18 : mP L19 ≤ mP Ln := MX9_add hv18
          have qv18 : mP Ln1 ≤ mP L19 := by
            exact ihM.2 _ _ _ _ _ h
          refine ⟨(mP Ln - mP L19) / 16, mP Ln - mP L19, by omega, by omega, ?_⟩
          refine LX9_add hv18 R3 (mKe2 sl1A) (mg_A (t := (l1A + 2)) R3 (mRe sl1A rfl) rfl) rfl (by omega) (by omega) (fun S19 R19 F19 => ?_)
          exact ih.2 _ _ _ _ _ _ _ _ R19 sl1A h (by omega) (by omega) (fun S1 R1 F1 => k S1 R1 (F3.tr (F19.tr F1)))
        · obtain ⟨v13, L14, V14, hv13, h⟩ := mBA_some h
          have mv13 : mP L14 ≤ mP Ln := MX9_add hv13
          have qv13 : mP Ln1 ≤ mP L14 := by
            exact ihM.2 _ _ _ _ _ h
          refine ⟨(mP Ln - mP L14) / 16, mP Ln - mP L14, by omega, by omega, ?_⟩
          refine LX9_add hv13 R3 (mKe2 sl1A) (mg_A (t := (l1A + 2)) R3 (mRe sl1A rfl) rfl) rfl (by omega) (by omega) (fun S14 R14 F14 => ?_)
          exact ih.2 _ _ _ _ _ _ _ _ R14 sl1A h (by omega) (by omega) (fun S1 R1 F1 => k S1 R1 (F3.tr (F14.tr F1)))
      · obtain ⟨v23, hv23, h⟩ := mBN_some h
        refine LX11_has hv23 rfl rfl ?_
        refine mIf h Iff.rfl (fun c6 h => ?_) (fun c6 h => ?_)
        · refine mLet h rfl (fun x29 ex29 h => ?_)
          exact ih.1 _ _ _ _ _ _ _ _ R sl1A h (by omega) (by omega) (fun S1 R1 F1 => k S1 R1 F1)
        · obtain ⟨v30, V31, hv30, h⟩ := mBW_some h
          refine LX2_loadEdges hv30 R sl1A rfl rfl rfl (fun S31 R31 F31 => ?_)
          obtain ⟨v35, V36, hv35, h⟩ := mBW_some h
          refine LX2_fillsFrom hv35 R31 rfl rfl (fun S36 R36 F36 => ?_)
          refine mIf h Iff.rfl (fun c7 h => ?_) (fun c7 h => ?_)
          · refine mLet h rfl (fun x42 ex42 h => ?_)
            refine mLet h rfl (fun x43 ex43 h => ?_)
            exact ih.1 _ _ _ _ _ _ _ _ R36 sl1A h (by omega) (by omega) (fun S1 R1 F1 => k S1 R1 (F31.tr (F36.tr F1)))
          · refine mLet h rfl (fun x41 ex41 h => ?_)
            exact ih.1 _ _ _ _ _ _ _ _ R36 sl1A h (by omega) (by omega) (fun S1 R1 F1 => k S1 R1 (F31.tr (F36.tr F1)))
    · intro l1A l3I l4I S V Ln c s R sl1A h hk hn k
      rw [mX2_writeCore_go, if_neg (by decide), if_pos rfl] at h
      rw [rX2_writeCore_go, if_neg (by decide), if_pos rfl]
      unfold mX2_writeCore_b1 at h
      unfold rX2_writeCore_b1
      refine mIf h (by rw [show gEntry_itemCount S (α l1A) = V.fI l1A 6 from (mg_I (i := l1A) R (mO3 sl1A) rfl 6)]) (fun c8 h => ?_) (fun c8 h => ?_)
      · obtain ⟨rfl, rfl, rfl⟩ := mRA3 h
        exact k _ R mFr.rf
      · obtain ⟨v45, hv45, h⟩ := mBN_some h
        refine LX11_has hv45 rfl rfl ?_
        refine mIf h Iff.rfl (fun c9 h => ?_) (fun c9 h => ?_)
        · refine mLet h rfl (fun x51 ex51 h => ?_)
          exact ih.2 _ _ _ _ _ _ _ _ R sl1A h (by omega) (by omega) (fun S1 R1 F1 => k S1 R1 F1)
        · obtain ⟨v52, L53, V53, hv52, h⟩ := mBA_some h
          have mv52 : mP L53 ≤ mP Ln := MX9_add hv52
          have qv52 : mP Ln1 ≤ mP L53 := by
            obtain ⟨_, _, h⟩ := mLt_some h
            exact ihM.2 _ _ _ _ _ h
          refine ⟨(mP Ln - mP L53) / 16, mP Ln - mP L53, by omega, by omega, ?_⟩
          refine LX9_add hv52 R (mKe2 sl1A) (mg_A (t := (l1A + 2)) R (mRe sl1A rfl) rfl) rfl (by omega) (by omega) (fun S53 R53 F53 => ?_)
          refine mLet h rfl (fun x57 ex57 h => ?_)
          exact ih.2 _ _ _ _ _ _ _ _ R53 sl1A h (by omega) (by omega) (fun S1 R1 F1 => k S1 R1 (F53.tr F1))
set_option maxHeartbeats 4000000 in
set_option maxRecDepth 100000 in
theorem LX2_writeCore {α : Nat → Nat} {F : Nat} {S : wPS} {Ln Ln1 : Nat → Nat} {V V1 : mV} {v : Unit} {Φ : (Unit → wPS → Prop)} {l0Ax : Nat} {l1Ax : Nat} {l1A : Nat} {l2Ix l2I : Int32} {k0 n0 : Nat} (h : mX2_writeCore F Ln l1A l2I V = some (v, Ln1, V1)) (R : mRel α S Ln V) (sl1A : mK l1A = 3) (el0A : l0Ax = α 3) (el1A : l1Ax = α l1A) (el2I : l2Ix = l2I) (hk : (mP Ln - mP Ln1) / 16 ≤ k0) (hn : mP Ln - mP Ln1 ≤ n0) (k : (∀ S1, mRel α S1 Ln1 V1 → mFr α S S1 → Φ v S1)) : rX2_writeCore F k0 n0 l0Ax l1Ax l2Ix S Φ := by
  have el0A := el0A.symm
  subst el0A
  have el1A := el1A.symm
  subst el1A
  have el2I := el2I.symm
  subst el2I
  have ih := LX2_writeCore_go  (α := α) (F := F) (v := v) (k0 := k0) (n0 := n0) (Ln1 := Ln1) (Φ := Φ) (V1 := V1) F
  have ihM := MX2_writeCore_go (F := F) (v := v) (Ln1 := Ln1) (V1 := V1) F
  unfold mX2_writeCore mX2_writeCore_s at h
  unfold rX2_writeCore rX2_writeCore_s
  refine mLet h (by rw [show gEntry_itemCount S (α l1A) = V.fI l1A 6 from (mg_I (i := l1A) R (mO3 sl1A) rfl 6)]) (fun x58 ex58 h => ?_)
  exact ih.1 _ _ _ _ _ _ _ _ R sl1A h (by omega) (by omega) (fun S1 R1 F1 => k S1 R1 F1)
def mX2_judgeCore_b0 (F : Nat) (rec : Nat → (Nat → Nat) → Nat → Nat → Int32 → Int32 → Int32 → mV → Option (Int32 × mV)) (Ln : Nat → Nat) (l1A : Nat) (l2A : Nat) (l4I : Int32) (l5I : Int32) (l6I : Int32) (V : mV) : Option (Int32 × mV) :=
  (if (V.fI l2A 1) ≤ l6I then (mBW (mX2_loadEdges F l1A (l5I) V) fun v2 V3 => (mBN (mX2_countBranches F ((0 : Int32)) V3) fun v7 => (mBN (mX2_countBranches F ((1 : Int32)) V3) fun v12 => (if v7 = v12 then (mBN (mX2_areBranchesOf F (l4I) V3) fun v18 => (if v18 = 0 then some ((3 : Int32), V3) else (mBW (mX2_areWaysOf F (l4I) V3) fun v24 V25 => (if v24 = 0 then some ((4 : Int32), V25) else some ((0 : Int32), V25))))) else some ((2 : Int32), V3))))) else (mBN (mX9_at F Ln l2A (l6I) V) fun v30 => (mLt (l5I ||| ((1 : Int32) <<< (v30 &&& 31))) fun x35 => (mLt (l6I + (1 : Int32)) fun x36 => (rec 0 Ln l1A l2A (l4I) (x35) (x36) V)))))
def mX2_judgeCore_go (F : Nat) : Nat → Nat → (Nat → Nat) → Nat → Nat → Int32 → Int32 → Int32 → mV → Option (Int32 × mV)
  | 0, _, _, _, _, _, _, _, _ => none
  | k' + 1, lab, Ln, l1A, l2A, l4I, l5I, l6I, V => if lab = 0 then mX2_judgeCore_b0 F (mX2_judgeCore_go F k') Ln l1A l2A l4I l5I l6I V else none
def mX2_judgeCore_s (F : Nat) (rec : Nat → (Nat → Nat) → Nat → Nat → Int32 → Int32 → Int32 → mV → Option (Int32 × mV)) (Ln : Nat → Nat) (l1A : Nat) (l2A : Nat) (V : mV) : Option (Int32 × mV) :=
  (mLt (if (V.fI l1A 6) < (V.fI l1A 8) then (V.fI l1A 6) else (V.fI l1A 8)) fun x37 => (mBN (mX9_at F Ln l2A ((0 : Int32)) V) fun v38 => (if (V.fI l2A 1) = 0 then some ((1 : Int32), V) else (if v38 = (5 : Int32) then (mBN (mX9_liesWithin F Ln l2A ((1 : Int32)) ((0 : Int32)) ((x37 - (1 : Int32))) V) fun v45 => (if v45 = 0 then some ((1 : Int32), V) else (mBN (mX9_isRising F Ln l2A ((1 : Int32)) V) fun v51 => (if v51 = 0 then some ((1 : Int32), V) else (rec 0 Ln l1A l2A (v38) ((0 : Int32)) ((1 : Int32)) V))))) else (if v38 = (3 : Int32) then (mBN (mX9_liesWithin F Ln l2A ((1 : Int32)) ((0 : Int32)) ((x37 - (1 : Int32))) V) fun v58 => (if v58 = 0 then some ((1 : Int32), V) else (mBN (mX9_isRising F Ln l2A ((1 : Int32)) V) fun v64 => (if v64 = 0 then some ((1 : Int32), V) else (rec 0 Ln l1A l2A (v38) ((0 : Int32)) ((1 : Int32)) V))))) else some ((1 : Int32), V))))))
def mX2_judgeCore (F : Nat) (Ln : Nat → Nat) (l1A : Nat) (l2A : Nat) (V : mV) : Option (Int32 × mV) := mX2_judgeCore_s F (mX2_judgeCore_go F F) Ln l1A l2A V
set_option maxHeartbeats 4000000 in
set_option maxRecDepth 100000 in
theorem LX2_judgeCore_go {α : Nat → Nat} {F : Nat} {v : Int32} {V1 : mV} {Φ : (Int32 → wPS → Prop)} : ∀ k' : Nat, (∀ (l1A : Nat) (l2A : Nat) (l4I : Int32) (l5I : Int32) (l6I : Int32) (S : wPS) (V : mV) (Ln : Nat → Nat) , mRel α S Ln V → mK l1A = 3 → mK l2A = 9 → mX2_judgeCore_go F k' 0 Ln l1A l2A l4I l5I l6I V = some (v, V1) → (∀ S1, mRel α S1 Ln V1 → mFr α S S1 → Φ v S1) → rX2_judgeCore_go F k' 0 (α 3) (α l1A) (α l2A) l4I l5I l6I S Φ) := by
  intro k'
  induction k' with
  | zero => exact (fun _ _ _ _ _ _ _ _ _ _ _ h _ => by cases h)
  | succ k' ih =>
    intro l1A l2A l4I l5I l6I S V Ln R sl1A sl2A h k
    rw [mX2_judgeCore_go, if_pos rfl] at h
    rw [rX2_judgeCore_go, if_pos rfl]
    unfold mX2_judgeCore_b0 at h
    unfold rX2_judgeCore_b0
    refine mIf h (by rw [show gRow_count S (α l2A) = V.fI l2A 1 from (mg_I (i := l2A) R (mO9 sl2A) rfl 1)]) (fun c1 h => ?_) (fun c1 h => ?_)
    · obtain ⟨v2, V3, hv2, h⟩ := mBW_some h
      refine LX2_loadEdges hv2 R sl1A rfl rfl rfl (fun S3 R3 F3 => ?_)
      obtain ⟨v7, hv7, h⟩ := mBN_some h
      refine LX2_countBranches hv7 R3 rfl rfl ?_
      obtain ⟨v12, hv12, h⟩ := mBN_some h
      refine LX2_countBranches hv12 R3 rfl rfl ?_
      refine mIf h Iff.rfl (fun c2 h => ?_) (fun c2 h => ?_)
      · obtain ⟨v18, hv18, h⟩ := mBN_some h
        refine LX2_areBranchesOf hv18 R3 rfl rfl ?_
        refine mIf h Iff.rfl (fun c3 h => ?_) (fun c3 h => ?_)
        · obtain ⟨rfl, rfl⟩ := mRW h
          exact k _ R3 F3
        · obtain ⟨v24, V25, hv24, h⟩ := mBW_some h
          refine LX2_areWaysOf hv24 R3 rfl rfl (fun S25 R25 F25 => ?_)
          refine mIf h Iff.rfl (fun c4 h => ?_) (fun c4 h => ?_)
          · obtain ⟨rfl, rfl⟩ := mRW h
            exact k _ R25 (F3.tr F25)
          · obtain ⟨rfl, rfl⟩ := mRW h
            exact k _ R25 (F3.tr F25)
      · obtain ⟨rfl, rfl⟩ := mRW h
        exact k _ R3 F3
    · obtain ⟨v30, hv30, h⟩ := mBN_some h
      refine LX9_at hv30 R sl2A rfl rfl ?_
      refine mLet h rfl (fun x35 ex35 h => ?_)
      refine mLet h rfl (fun x36 ex36 h => ?_)
      exact ih _ _ _ _ _ _ _ _ R sl1A sl2A h (fun S1 R1 F1 => k S1 R1 F1)
set_option maxHeartbeats 4000000 in
set_option maxRecDepth 100000 in
theorem LX2_judgeCore {α : Nat → Nat} {F : Nat} {S : wPS} {Ln : Nat → Nat} {V V1 : mV} {v : Int32} {Φ : (Int32 → wPS → Prop)} {l0Ax : Nat} {l1Ax : Nat} {l1A : Nat} {l2Ax : Nat} {l2A : Nat} (h : mX2_judgeCore F Ln l1A l2A V = some (v, V1)) (R : mRel α S Ln V) (sl1A : mK l1A = 3) (sl2A : mK l2A = 9) (el0A : l0Ax = α 3) (el1A : l1Ax = α l1A) (el2A : l2Ax = α l2A) (k : (∀ S1, mRel α S1 Ln V1 → mFr α S S1 → Φ v S1)) : rX2_judgeCore F l0Ax l1Ax l2Ax S Φ := by
  have el0A := el0A.symm
  subst el0A
  have el1A := el1A.symm
  subst el1A
  have el2A := el2A.symm
  subst el2A
  have ih := LX2_judgeCore_go  (α := α) (F := F) (v := v) (Φ := Φ) (V1 := V1) F
  unfold mX2_judgeCore mX2_judgeCore_s at h
  unfold rX2_judgeCore rX2_judgeCore_s
  refine mLet h (by rw [show gEntry_itemCount S (α l1A) = V.fI l1A 6 from (mg_I (i := l1A) R (mO3 sl1A) rfl 6), show gEntry_boundNow S (α l1A) = V.fI l1A 8 from (mg_I (i := l1A) R (mO3 sl1A) rfl 8)]) (fun x37 ex37 h => ?_)
  obtain ⟨v38, hv38, h⟩ := mBN_some h
  refine LX9_at hv38 R sl2A rfl rfl ?_
  refine mIf h (by rw [show gRow_count S (α l2A) = V.fI l2A 1 from (mg_I (i := l2A) R (mO9 sl2A) rfl 1)]) (fun c5 h => ?_) (fun c5 h => ?_)
  · obtain ⟨rfl, rfl⟩ := mRW h
    exact k _ R mFr.rf
  · refine mIf h Iff.rfl (fun c6 h => ?_) (fun c6 h => ?_)
    · obtain ⟨v45, hv45, h⟩ := mBN_some h
      refine LX9_liesWithin hv45 R sl2A rfl rfl rfl rfl ?_
      refine mIf h Iff.rfl (fun c7 h => ?_) (fun c7 h => ?_)
      · obtain ⟨rfl, rfl⟩ := mRW h
        exact k _ R mFr.rf
      · obtain ⟨v51, hv51, h⟩ := mBN_some h
        refine LX9_isRising hv51 R sl2A rfl rfl ?_
        refine mIf h Iff.rfl (fun c8 h => ?_) (fun c8 h => ?_)
        · obtain ⟨rfl, rfl⟩ := mRW h
          exact k _ R mFr.rf
        · exact ih _ _ _ _ _ _ _ _ R sl1A sl2A h (fun S1 R1 F1 => k S1 R1 F1)
    · refine mIf h Iff.rfl (fun c9 h => ?_) (fun c9 h => ?_)
      · obtain ⟨v58, hv58, h⟩ := mBN_some h
        refine LX9_liesWithin hv58 R sl2A rfl rfl rfl rfl ?_
        refine mIf h Iff.rfl (fun c10 h => ?_) (fun c10 h => ?_)
        · obtain ⟨rfl, rfl⟩ := mRW h
          exact k _ R mFr.rf
        · obtain ⟨v64, hv64, h⟩ := mBN_some h
          refine LX9_isRising hv64 R sl2A rfl rfl ?_
          refine mIf h Iff.rfl (fun c11 h => ?_) (fun c11 h => ?_)
          · obtain ⟨rfl, rfl⟩ := mRW h
            exact k _ R mFr.rf
          · exact ih _ _ _ _ _ _ _ _ R sl1A sl2A h (fun S1 R1 F1 => k S1 R1 F1)
      · obtain ⟨rfl, rfl⟩ := mRW h
        exact k _ R mFr.rf
def mX4_carriesPairings_b0 (F : Nat) (rec : Nat → Nat → Nat → Int32 → Int32 → Int32 → mV → Option (Int32 × mV)) (l1A : Nat) (l2A : Nat) (l3I : Int32) (l4I : Int32) (l6I : Int32) (V : mV) : Option (Int32 × mV) :=
  (if l3I ≤ l6I then (rec 1 l1A l2A 0 (l4I) ((0 : Int32)) V) else (mBN (mX11_has F (l4I) (l6I)) fun v2 => (if v2 = 0 then (mBW (mX3_addItem F l2A ((l6I + (1 : Int32))) ((l3I + (1 : Int32))) ((1 : Int32)) V) fun v8 V9 => (mLt (l6I + (1 : Int32)) fun x13 => (rec 0 l1A l2A (l3I) (l4I) (x13) V9))) else (mBW (mX3_addItem F l2A ((0 : Int32)) ((l6I + (1 : Int32))) ((1 : Int32)) V) fun v14 V15 => (mLt (l6I + (1 : Int32)) fun x19 => (rec 0 l1A l2A (l3I) (l4I) (x19) V15))))))
def mX4_carriesPairings_b1 (F : Nat) (rec : Nat → Nat → Nat → Int32 → Int32 → Int32 → mV → Option (Int32 × mV)) (l1A : Nat) (l2A : Nat) (l4I : Int32) (l6I : Int32) (V : mV) : Option (Int32 × mV) :=
  (if (V.fI l1A 6) ≤ l6I then some ((1 : Int32), V) else (mBN (mX3_at F l1A (l6I) ((0 : Int32)) V) fun v21 => (mLt (v21 + (1 : Int32)) fun x26 => (mBN (mX3_at F l1A (l6I) ((1 : Int32)) V) fun v27 => (mLt (v27 + (1 : Int32)) fun x32 => (mBN (mX11_has F (l4I) ((x26 - (1 : Int32)))) fun v33 => (if v33 = 0 then (if v33 = 0 then (mBW (mX3_addItem F l2A (x32) (x26) ((1 : Int32)) V) fun v40 V41 => (mLt (l6I + (1 : Int32)) fun x45 => (rec 1 l1A l2A 0 (l4I) (x45) V41))) else (mBW (mX3_addItem F l2A (x32) (x32) ((1 : Int32)) V) fun v46 V47 => (mLt (l6I + (1 : Int32)) fun x51 => (rec 1 l1A l2A 0 (l4I) (x51) V47)))) else (if v33 = 0 then (mBW (mX3_addItem F l2A (x26) (x26) ((1 : Int32)) V) fun v53 V54 => (mLt (l6I + (1 : Int32)) fun x58 => (rec 1 l1A l2A 0 (l4I) (x58) V54))) else (mBW (mX3_addItem F l2A (x26) (x32) ((1 : Int32)) V) fun v59 V60 => (mLt (l6I + (1 : Int32)) fun x64 => (rec 1 l1A l2A 0 (l4I) (x64) V60)))))))))))
def mX4_carriesPairings_go (F : Nat) : Nat → Nat → Nat → Nat → Int32 → Int32 → Int32 → mV → Option (Int32 × mV)
  | 0, _, _, _, _, _, _, _ => none
  | k' + 1, lab, l1A, l2A, l3I, l4I, l6I, V => if lab = 0 then mX4_carriesPairings_b0 F (mX4_carriesPairings_go F k') l1A l2A l3I l4I l6I V else if lab = 1 then mX4_carriesPairings_b1 F (mX4_carriesPairings_go F k') l1A l2A l4I l6I V else none
def mX4_carriesPairings_s (F : Nat) (rec : Nat → Nat → Nat → Int32 → Int32 → Int32 → mV → Option (Int32 × mV)) (l1A : Nat) (l2A : Nat) (V : mV) : Option (Int32 × mV) :=
  (mLt (V.fI l1A 1) fun x65 => (mBW (mX4_leftSide F l1A V) fun v66 V67 => (if v66 < 0 then some ((0 : Int32), V67) else (if (1 : Int32) < 0 ∨ 12 ≤ ((1 : Int32)).toNatClampNeg then none else (if (wkTab 1 ((1 : Int32)).toNatClampNeg) < (x65 + (2 : Int32)) then some ((0 : Int32), V67) else (if (1 : Int32) < 0 ∨ 12 ≤ ((1 : Int32)).toNatClampNeg then none else (if (x65 + (V67.fI l1A 6)) ≤ (wkTab 4 ((1 : Int32)).toNatClampNeg) then (mLt (if (0 : Int32) < (x65 - (V67.fI l1A 8)) then (x65 - (V67.fI l1A 8)) else (0 : Int32)) fun x76 => (mBW (mX3_begin F l2A ((1 : Int32)) ((x65 + (2 : Int32))) (((x76 + (1 : Int32)) / (2 : Int32))) V67) fun v77 V78 => (rec 0 l1A l2A (x65) (v66) ((0 : Int32)) V78))) else some ((0 : Int32), V67))))))))
def mX4_carriesPairings (F : Nat) (l1A : Nat) (l2A : Nat) (V : mV) : Option (Int32 × mV) := mX4_carriesPairings_s F (mX4_carriesPairings_go F F) l1A l2A V
set_option maxHeartbeats 4000000 in
set_option maxRecDepth 100000 in
theorem LX4_carriesPairings_go {α : Nat → Nat} {F : Nat} {Ln : Nat → Nat} {v : Int32} {V1 : mV} {Φ : (Int32 → wPS → Prop)} : ∀ k' : Nat, (∀ (l1A : Nat) (l2A : Nat) (l3I : Int32) (l4I : Int32) (l6I : Int32) (S : wPS) (V : mV) , mRel α S Ln V → mK l1A = 3 → mK l2A = 3 → mX4_carriesPairings_go F k' 0 l1A l2A l3I l4I l6I V = some (v, V1) → (∀ S1, mRel α S1 Ln V1 → mFr α S S1 → Φ v S1) → rX4_carriesPairings_go F k' 0 (α l1A) (α l2A) l3I l4I l6I S Φ) ∧ (∀ (l1A : Nat) (l2A : Nat) (l4I : Int32) (l6I : Int32) (S : wPS) (V : mV) , mRel α S Ln V → mK l1A = 3 → mK l2A = 3 → mX4_carriesPairings_go F k' 1 l1A l2A 0 l4I l6I V = some (v, V1) → (∀ S1, mRel α S1 Ln V1 → mFr α S S1 → Φ v S1) → rX4_carriesPairings_go F k' 1 (α l1A) (α l2A) 0 l4I l6I S Φ) := by
  intro k'
  induction k' with
  | zero => exact ⟨(fun _ _ _ _ _ _ _ _ _ _ h _ => by cases h), (fun _ _ _ _ _ _ _ _ _ h _ => by cases h)⟩
  | succ k' ih =>
    refine ⟨?_, ?_⟩
    · intro l1A l2A l3I l4I l6I S V R sl1A sl2A h k
      rw [mX4_carriesPairings_go, if_pos rfl] at h
      rw [rX4_carriesPairings_go, if_pos rfl]
      unfold mX4_carriesPairings_b0 at h
      unfold rX4_carriesPairings_b0
      refine mIf h Iff.rfl (fun c1 h => ?_) (fun c1 h => ?_)
      · exact ih.2 _ _ _ _ _ _ R sl1A sl2A h (fun S1 R1 F1 => k S1 R1 F1)
      · obtain ⟨v2, hv2, h⟩ := mBN_some h
        refine LX11_has hv2 rfl rfl ?_
        refine mIf h Iff.rfl (fun c2 h => ?_) (fun c2 h => ?_)
        · obtain ⟨v8, V9, hv8, h⟩ := mBW_some h
          refine LX3_addItem hv8 R sl2A rfl rfl rfl rfl (fun S9 R9 F9 => ?_)
          refine mLet h rfl (fun x13 ex13 h => ?_)
          exact ih.1 _ _ _ _ _ _ _ R9 sl1A sl2A h (fun S1 R1 F1 => k S1 R1 (F9.tr F1))
        · obtain ⟨v14, V15, hv14, h⟩ := mBW_some h
          refine LX3_addItem hv14 R sl2A rfl rfl rfl rfl (fun S15 R15 F15 => ?_)
          refine mLet h rfl (fun x19 ex19 h => ?_)
          exact ih.1 _ _ _ _ _ _ _ R15 sl1A sl2A h (fun S1 R1 F1 => k S1 R1 (F15.tr F1))
    · intro l1A l2A l4I l6I S V R sl1A sl2A h k
      rw [mX4_carriesPairings_go, if_neg (by decide), if_pos rfl] at h
      rw [rX4_carriesPairings_go, if_neg (by decide), if_pos rfl]
      unfold mX4_carriesPairings_b1 at h
      unfold rX4_carriesPairings_b1
      refine mIf h (by rw [show gEntry_itemCount S (α l1A) = V.fI l1A 6 from (mg_I (i := l1A) R (mO3 sl1A) rfl 6)]) (fun c3 h => ?_) (fun c3 h => ?_)
      · obtain ⟨rfl, rfl⟩ := mRW h
        exact k _ R mFr.rf
      · obtain ⟨v21, hv21, h⟩ := mBN_some h
        refine LX3_at hv21 R sl1A rfl rfl rfl ?_
        refine mLet h rfl (fun x26 ex26 h => ?_)
        obtain ⟨v27, hv27, h⟩ := mBN_some h
        refine LX3_at hv27 R sl1A rfl rfl rfl ?_
        refine mLet h rfl (fun x32 ex32 h => ?_)
        obtain ⟨v33, hv33, h⟩ := mBN_some h
        refine LX11_has hv33 rfl rfl ?_
        refine mIf h Iff.rfl (fun c4 h => ?_) (fun c4 h => ?_)
        · refine mIf h Iff.rfl (fun c5 h => ?_) (fun c5 h => ?_)
          · obtain ⟨v40, V41, hv40, h⟩ := mBW_some h
            refine LX3_addItem hv40 R sl2A rfl rfl rfl rfl (fun S41 R41 F41 => ?_)
            refine mLet h rfl (fun x45 ex45 h => ?_)
            exact ih.2 _ _ _ _ _ _ R41 sl1A sl2A h (fun S1 R1 F1 => k S1 R1 (F41.tr F1))
          · obtain ⟨v46, V47, hv46, h⟩ := mBW_some h
            refine LX3_addItem hv46 R sl2A rfl rfl rfl rfl (fun S47 R47 F47 => ?_)
            refine mLet h rfl (fun x51 ex51 h => ?_)
            exact ih.2 _ _ _ _ _ _ R47 sl1A sl2A h (fun S1 R1 F1 => k S1 R1 (F47.tr F1))
        · refine mIf h Iff.rfl (fun c6 h => ?_) (fun c6 h => ?_)
          · obtain ⟨v53, V54, hv53, h⟩ := mBW_some h
            refine LX3_addItem hv53 R sl2A rfl rfl rfl rfl (fun S54 R54 F54 => ?_)
            refine mLet h rfl (fun x58 ex58 h => ?_)
            exact ih.2 _ _ _ _ _ _ R54 sl1A sl2A h (fun S1 R1 F1 => k S1 R1 (F54.tr F1))
          · obtain ⟨v59, V60, hv59, h⟩ := mBW_some h
            refine LX3_addItem hv59 R sl2A rfl rfl rfl rfl (fun S60 R60 F60 => ?_)
            refine mLet h rfl (fun x64 ex64 h => ?_)
            exact ih.2 _ _ _ _ _ _ R60 sl1A sl2A h (fun S1 R1 F1 => k S1 R1 (F60.tr F1))
set_option maxHeartbeats 4000000 in
set_option maxRecDepth 100000 in
theorem LX4_carriesPairings {α : Nat → Nat} {F : Nat} {S : wPS} {Ln : Nat → Nat} {V V1 : mV} {v : Int32} {Φ : (Int32 → wPS → Prop)} {l0Ax : Nat} {l1Ax : Nat} {l1A : Nat} {l2Ax : Nat} {l2A : Nat} (h : mX4_carriesPairings F l1A l2A V = some (v, V1)) (R : mRel α S Ln V) (sl1A : mK l1A = 3) (sl2A : mK l2A = 3) (el0A : l0Ax = α 1) (el1A : l1Ax = α l1A) (el2A : l2Ax = α l2A) (k : (∀ S1, mRel α S1 Ln V1 → mFr α S S1 → Φ v S1)) : rX4_carriesPairings F l0Ax l1Ax l2Ax S Φ := by
  have el0A := el0A.symm
  subst el0A
  have el1A := el1A.symm
  subst el1A
  have el2A := el2A.symm
  subst el2A
  have ih := LX4_carriesPairings_go  (α := α) (F := F) (v := v) (Ln := Ln) (Φ := Φ) (V1 := V1) F
  unfold mX4_carriesPairings mX4_carriesPairings_s at h
  unfold rX4_carriesPairings rX4_carriesPairings_s
  refine mLet h (by rw [show gEntry_size S (α l1A) = V.fI l1A 1 from (mg_I (i := l1A) R (mO3 sl1A) rfl 1)]) (fun x65 ex65 h => ?_)
  obtain ⟨v66, V67, hv66, h⟩ := mBW_some h
  refine LX4_leftSide hv66 R sl1A rfl rfl (fun S67 R67 F67 => ?_)
  refine mIf h Iff.rfl (fun c7 h => ?_) (fun c7 h => ?_)
  · obtain ⟨rfl, rfl⟩ := mRW h
    exact k _ R67 F67
  · refine mGd h Iff.rfl (fun c8 h => ?_)
    refine mIf h Iff.rfl (fun c9 h => ?_) (fun c9 h => ?_)
    · obtain ⟨rfl, rfl⟩ := mRW h
      exact k _ R67 F67
    · refine mGd h Iff.rfl (fun c10 h => ?_)
      refine mIf h (by rw [show gEntry_itemCount S67 (α l1A) = V67.fI l1A 6 from (mg_I (i := l1A) R67 (mO3 sl1A) rfl 6)]) (fun c11 h => ?_) (fun c11 h => ?_)
      · refine mLet h (by rw [show gEntry_boundNow S67 (α l1A) = V67.fI l1A 8 from (mg_I (i := l1A) R67 (mO3 sl1A) rfl 8)]) (fun x76 ex76 h => ?_)
        obtain ⟨v77, V78, hv77, h⟩ := mBW_some h
        refine LX3_begin hv77 R67 sl2A rfl rfl rfl rfl (fun S78 R78 F78 => ?_)
        exact ih.1 _ _ _ _ _ _ _ R78 sl1A sl2A h (fun S1 R1 F1 => k S1 R1 (F67.tr (F78.tr F1)))
      · obtain ⟨rfl, rfl⟩ := mRW h
        exact k _ R67 F67
def mX4_bringBack_b0 (F : Nat) (rec : Nat → (Nat → Nat) → Nat → Nat → Int32 → mV → Option (Unit × (Nat → Nat) × mV)) (Ln : Nat → Nat) (l1A : Nat) (l3A : Nat) (l4I : Int32) (V : mV) : Option (Unit × (Nat → Nat) × mV) :=
  (if (V.fI (l1A + 2) 1) ≤ l4I then some ((), Ln, V) else (mBN (mX9_at F Ln (l1A + 2) (l4I) V) fun v2 => (mBA (mX9_add F Ln l3A (v2) V) fun v7 L8 V8 => (mLt (l4I + (1 : Int32)) fun x12 => (rec 0 L8 l1A l3A (x12) V8)))))
def mX4_bringBack_go (F : Nat) : Nat → Nat → (Nat → Nat) → Nat → Nat → Int32 → mV → Option (Unit × (Nat → Nat) × mV)
  | 0, _, _, _, _, _, _ => none
  | k' + 1, lab, Ln, l1A, l3A, l4I, V => if lab = 0 then mX4_bringBack_b0 F (mX4_bringBack_go F k') Ln l1A l3A l4I V else none
def mX4_bringBack_s (F : Nat) (rec : Nat → (Nat → Nat) → Nat → Nat → Int32 → mV → Option (Unit × (Nat → Nat) × mV)) (Ln : Nat → Nat) (l1A : Nat) (l2A : Nat) (l3A : Nat) (V : mV) : Option (Unit × (Nat → Nat) × mV) :=
  (mBW (mX9_clear F l3A V) fun v13 V14 => (if (V14.fI l1A 0) = (3 : Int32) then (rec 0 Ln l1A l3A ((1 : Int32)) V14) else (if (V14.fI l1A 11) = (121 : Int32) then (if (V14.fI l1A 0) = (1 : Int32) then (mLt (V14.fI l2A 1) fun x31 => (mBA (mX4_bringPairs F Ln (l1A + 2) (x31) l2A l3A V14) fun v32 L33 V33 => some ((), L33, V33))) else (mBA (mX4_bringPairs F Ln (l1A + 2) ((0 : Int32)) l2A l3A V14) fun v26 L27 V27 => some ((), L27, V27))) else (mBA (mX4_bringNodes F Ln (l1A + 2) l2A l3A V14) fun v20 L21 V21 => some ((), L21, V21)))))
def mX4_bringBack (F : Nat) (Ln : Nat → Nat) (l1A : Nat) (l2A : Nat) (l3A : Nat) (V : mV) : Option (Unit × (Nat → Nat) × mV) := mX4_bringBack_s F (mX4_bringBack_go F F) Ln l1A l2A l3A V
set_option maxHeartbeats 4000000 in
set_option maxRecDepth 100000 in
theorem MX4_bringBack_go {F : Nat} {v : Unit} {Ln1 : Nat → Nat} {V1 : mV} : ∀ k' : Nat, (∀ (l1A : Nat) (l3A : Nat) (l4I : Int32) (Ln : Nat → Nat) (V : mV), mX4_bringBack_go F k' 0 Ln l1A l3A l4I V = some (v, Ln1, V1) → mP Ln1 ≤ mP Ln) := by
  intro k'
  induction k' with
  | zero => exact (fun _ _ _ _ _ h => by cases h)
  | succ k' ihM =>
    skip
    intro l1A l3A l4I Ln V h
    rw [mX4_bringBack_go, if_pos rfl] at h
    unfold mX4_bringBack_b0 at h
    rcases mIf_some h with ⟨_, h⟩ | ⟨_, h⟩
    · cases h
      exact Nat.le_refl _
    · obtain ⟨_, _, h⟩ := mBN_some h
      obtain ⟨_, _, _, z1, h⟩ := mBA_some h
      refine Nat.le_trans ?_ (MX9_add z1)
      obtain ⟨_, _, h⟩ := mLt_some h
      exact ihM _ _ _ _ _ h
set_option maxHeartbeats 4000000 in
set_option maxRecDepth 100000 in
theorem MX4_bringBack {F : Nat} {Ln Ln1 : Nat → Nat} {V V1 : mV} {v : Unit} {l1A : Nat} {l2A : Nat} {l3A : Nat} (h : mX4_bringBack F Ln l1A l2A l3A V = some (v, Ln1, V1)) : mP Ln1 ≤ mP Ln := by
  have ihM := MX4_bringBack_go (F := F) (v := v) (Ln1 := Ln1) (V1 := V1) F
  unfold mX4_bringBack mX4_bringBack_s at h
  obtain ⟨_, _, _, h⟩ := mBW_some h
  rcases mIf_some h with ⟨_, h⟩ | ⟨_, h⟩
  · exact ihM _ _ _ _ _ h
  · rcases mIf_some h with ⟨_, h⟩ | ⟨_, h⟩
    · rcases mIf_some h with ⟨_, h⟩ | ⟨_, h⟩
      · obtain ⟨_, _, h⟩ := mLt_some h
        obtain ⟨_, _, _, z2, h⟩ := mBA_some h
        refine Nat.le_trans ?_ (MX4_bringPairs z2)
        cases h
        exact Nat.le_refl _
      · obtain ⟨_, _, _, z3, h⟩ := mBA_some h
        refine Nat.le_trans ?_ (MX4_bringPairs z3)
        cases h
        exact Nat.le_refl _
    · obtain ⟨_, _, _, z4, h⟩ := mBA_some h
      refine Nat.le_trans ?_ (MX4_bringNodes z4)
      cases h
      exact Nat.le_refl _
set_option maxHeartbeats 4000000 in
set_option maxRecDepth 100000 in
theorem LX4_bringBack_go {α : Nat → Nat} {k0 n0 : Nat} {F : Nat} {v : Unit} {Ln1 : Nat → Nat} {V1 : mV} {Φ : (Unit → wPS → Prop)} : ∀ k' : Nat, (∀ (l1A : Nat) (l3A : Nat) (l4I : Int32) (S : wPS) (V : mV) (Ln : Nat → Nat) (c s : Nat), mRel α S Ln V → mK l1A = 3 → mK l3A = 9 → mX4_bringBack_go F k' 0 Ln l1A l3A l4I V = some (v, Ln1, V1) → c + (mP Ln - mP Ln1) / 16 ≤ k0 → s + (mP Ln - mP Ln1) ≤ n0 → (∀ S1, mRel α S1 Ln1 V1 → mFr α S S1 → Φ v S1) → rX4_bringBack_go F k0 n0 k' 0 c s (α l1A) (α l3A) l4I S Φ) := by
  intro k'
  induction k' with
  | zero => exact (fun _ _ _ _ _ _ _ _ _ _ _ h _ _ _ => by cases h)
  | succ k' ih =>
    have ihM := MX4_bringBack_go (F := F) (v := v) (Ln1 := Ln1) (V1 := V1) k'
    intro l1A l3A l4I S V Ln c s R sl1A sl3A h hk hn k
    rw [mX4_bringBack_go, if_pos rfl] at h
    rw [rX4_bringBack_go, if_pos rfl]
    unfold mX4_bringBack_b0 at h
    unfold rX4_bringBack_b0
    refine mIf h (by rw [show gRow_count S (wkAd (gEntry_row S (α l1A))) = V.fI (l1A + 2) 1 from (mg_I (i := (l1A + 2)) R (mO9 (mKe2 sl1A)) (mg_A (t := (l1A + 2)) R (mRe sl1A rfl) rfl) 1)]) (fun c5 h => ?_) (fun c5 h => ?_)
    · obtain ⟨rfl, rfl, rfl⟩ := mRA3 h
      exact k _ R mFr.rf
    · obtain ⟨v2, hv2, h⟩ := mBN_some h
      refine LX9_at hv2 R (mKe2 sl1A) (mg_A (t := (l1A + 2)) R (mRe sl1A rfl) rfl) rfl ?_
      obtain ⟨v7, L8, V8, hv7, h⟩ := mBA_some h
      have mv7 : mP L8 ≤ mP Ln := MX9_add hv7
      have qv7 : mP Ln1 ≤ mP L8 := by
        obtain ⟨_, _, h⟩ := mLt_some h
        exact ihM _ _ _ _ _ h
      refine ⟨(mP Ln - mP L8) / 16, mP Ln - mP L8, by omega, by omega, ?_⟩
      refine LX9_add hv7 R sl3A rfl rfl (by omega) (by omega) (fun S8 R8 F8 => ?_)
      refine mLet h rfl (fun x12 ex12 h => ?_)
      exact ih _ _ _ _ _ _ _ _ R8 sl1A sl3A h (by omega) (by omega) (fun S1 R1 F1 => k S1 R1 (F8.tr F1))
set_option maxHeartbeats 4000000 in
set_option maxRecDepth 100000 in
theorem LX4_bringBack {α : Nat → Nat} {F : Nat} {S : wPS} {Ln Ln1 : Nat → Nat} {V V1 : mV} {v : Unit} {Φ : (Unit → wPS → Prop)} {l0Ax : Nat} {l1Ax : Nat} {l1A : Nat} {l2Ax : Nat} {l2A : Nat} {l3Ax : Nat} {l3A : Nat} {k0 n0 : Nat} (h : mX4_bringBack F Ln l1A l2A l3A V = some (v, Ln1, V1)) (R : mRel α S Ln V) (sl1A : mK l1A = 3) (sl2A : mK l2A = 3) (sl3A : mK l3A = 9) (el0A : l0Ax = α 1) (el1A : l1Ax = α l1A) (el2A : l2Ax = α l2A) (el3A : l3Ax = α l3A) (hk : (mP Ln - mP Ln1) / 16 ≤ k0) (hn : mP Ln - mP Ln1 ≤ n0) (k : (∀ S1, mRel α S1 Ln1 V1 → mFr α S S1 → Φ v S1)) : rX4_bringBack F k0 n0 l0Ax l1Ax l2Ax l3Ax S Φ := by
  have el0A := el0A.symm
  subst el0A
  have el1A := el1A.symm
  subst el1A
  have el2A := el2A.symm
  subst el2A
  have el3A := el3A.symm
  subst el3A
  have ih := LX4_bringBack_go  (α := α) (F := F) (v := v) (k0 := k0) (n0 := n0) (Ln1 := Ln1) (Φ := Φ) (V1 := V1) F
  have ihM := MX4_bringBack_go (F := F) (v := v) (Ln1 := Ln1) (V1 := V1) F
  unfold mX4_bringBack mX4_bringBack_s at h
  unfold rX4_bringBack rX4_bringBack_s
  obtain ⟨v13, V14, hv13, h⟩ := mBW_some h
  refine LX9_clear hv13 R sl3A rfl (fun S14 R14 F14 => ?_)
  refine mIf h (by rw [show gEntry_kind S14 (α l1A) = V14.fI l1A 0 from (mg_I (i := l1A) R14 (mO3 sl1A) rfl 0)]) (fun c6 h => ?_) (fun c6 h => ?_)
  · exact ih _ _ _ _ _ _ _ _ R14 sl1A sl3A h (by omega) (by omega) (fun S1 R1 F1 => k S1 R1 (F14.tr F1))
  · refine mIf h (by rw [show gEntry_reply S14 (α l1A) = V14.fI l1A 11 from (mg_I (i := l1A) R14 (mO3 sl1A) rfl 11)]) (fun c7 h => ?_) (fun c7 h => ?_)
    · refine mIf h (by rw [show gEntry_kind S14 (α l1A) = V14.fI l1A 0 from (mg_I (i := l1A) R14 (mO3 sl1A) rfl 0)]) (fun c8 h => ?_) (fun c8 h => ?_)
      · refine mLet h (by rw [show gEntry_size S14 (α l2A) = V14.fI l2A 1 from (mg_I (i := l2A) R14 (mO3 sl2A) rfl 1)]) (fun x31 ex31 h => ?_)
        obtain ⟨v32, L33, V33, hv32, h⟩ := mBA_some h
        have mv32 : mP L33 ≤ mP Ln := MX4_bringPairs hv32
        have qv32 : mP Ln1 ≤ mP L33 := by
          cases h
          exact Nat.le_refl _
        refine ⟨(mP Ln - mP L33) / 16, mP Ln - mP L33, by omega, by omega, ?_⟩
        refine LX4_bringPairs hv32 R14 (mKe2 sl1A) sl2A sl3A (mg_A (t := (l1A + 2)) R14 (mRe sl1A rfl) rfl) rfl rfl rfl (by omega) (by omega) (fun S33 R33 F33 => ?_)
        obtain ⟨rfl, rfl, rfl⟩ := mRA3 h
        exact k _ R33 (F14.tr F33)
      · obtain ⟨v26, L27, V27, hv26, h⟩ := mBA_some h
        have mv26 : mP L27 ≤ mP Ln := MX4_bringPairs hv26
        have qv26 : mP Ln1 ≤ mP L27 := by
          cases h
          exact Nat.le_refl _
        refine ⟨(mP Ln - mP L27) / 16, mP Ln - mP L27, by omega, by omega, ?_⟩
        refine LX4_bringPairs hv26 R14 (mKe2 sl1A) sl2A sl3A (mg_A (t := (l1A + 2)) R14 (mRe sl1A rfl) rfl) rfl rfl rfl (by omega) (by omega) (fun S27 R27 F27 => ?_)
        obtain ⟨rfl, rfl, rfl⟩ := mRA3 h
        exact k _ R27 (F14.tr F27)
    · obtain ⟨v20, L21, V21, hv20, h⟩ := mBA_some h
      have mv20 : mP L21 ≤ mP Ln := MX4_bringNodes hv20
      have qv20 : mP Ln1 ≤ mP L21 := by
        cases h
        exact Nat.le_refl _
      refine ⟨(mP Ln - mP L21) / 16, mP Ln - mP L21, by omega, by omega, ?_⟩
      refine LX4_bringNodes hv20 R14 (mKe2 sl1A) sl2A sl3A rfl (mg_A (t := (l1A + 2)) R14 (mRe sl1A rfl) rfl) rfl rfl (by omega) (by omega) (fun S21 R21 F21 => ?_)
      obtain ⟨rfl, rfl, rfl⟩ := mRA3 h
      exact k _ R21 (F14.tr F21)
def mX5_solve (F : Nat) (Ln : Nat → Nat) (l1A : Nat) (V : mV) : Option (Unit × (Nat → Nat) × mV) :=
  (mLt ((V.fI l1A 6) + (1 : Int32)) fun x1 => (mBW (mX5_loadUnknowns F l1A V) fun v2 V3 => (mBW (mX5_isFulfilled F V3) fun v7 V8 => (if v7 = 0 then (mBW (mX5_loadWeights F l1A V8) fun v13 V14 => (mBW (mX5_isFulfilled F V14) fun v18 V19 => (mBA (mX5_writeLeast F Ln (x1) (l1A + 2) V19) fun v23 L24 V24 => (mBW (mX3_tell F l1A ((0 : Int32)) ((0 : Int32)) V24) fun v28 V29 => some ((), L24, V29))))) else (mLt ((V8.fI l1A 1) + (V8.fI l1A 6)) fun x33 => (mBW (mX5_minimise F (x33) V8) fun v34 V35 => (mBN (mX5_valueOf F (x33) V35) fun v39 => (mLt (((Int32.toInt64 (V35.fI l1A 8)) * (V35.fJ 4 6)) - v39) fun x44 => (mBN (mJ9_floorDiv_f86c9 F (x44) ((if (V35.fJ 4 6) < (1 : Int64) then (1 : Int64) else (V35.fJ 4 6)))) fun v45 => (mBW (mX3_tell F l1A ((1 : Int32)) ((Int64.toInt32 v45)) V35) fun v50 V51 => (mBW (mX5_loadUnknowns F l1A V51) fun v55 V56 => (mBW (mX5_isFulfilled F V56) fun v60 V61 => (mBA (mX5_writeLeast F Ln ((V61.fI l1A 1)) (l1A + 2) V61) fun v65 L66 V66 => some ((), L66, V66))))))))))))))
set_option maxHeartbeats 4000000 in
set_option maxRecDepth 100000 in
theorem MX5_solve {F : Nat} {Ln Ln1 : Nat → Nat} {V V1 : mV} {v : Unit} {l1A : Nat} (h : mX5_solve F Ln l1A V = some (v, Ln1, V1)) : mP Ln1 ≤ mP Ln := by
  unfold mX5_solve at h
  obtain ⟨_, _, h⟩ := mLt_some h
  obtain ⟨_, _, _, h⟩ := mBW_some h
  obtain ⟨_, _, _, h⟩ := mBW_some h
  rcases mIf_some h with ⟨_, h⟩ | ⟨_, h⟩
  · obtain ⟨_, _, _, h⟩ := mBW_some h
    obtain ⟨_, _, _, h⟩ := mBW_some h
    obtain ⟨_, _, _, z1, h⟩ := mBA_some h
    refine Nat.le_trans ?_ (MX5_writeLeast z1)
    obtain ⟨_, _, _, h⟩ := mBW_some h
    cases h
    exact Nat.le_refl _
  · obtain ⟨_, _, h⟩ := mLt_some h
    obtain ⟨_, _, _, h⟩ := mBW_some h
    obtain ⟨_, _, h⟩ := mBN_some h
    obtain ⟨_, _, h⟩ := mLt_some h
    obtain ⟨_, _, h⟩ := mBN_some h
    obtain ⟨_, _, _, h⟩ := mBW_some h
    obtain ⟨_, _, _, h⟩ := mBW_some h
    obtain ⟨_, _, _, h⟩ := mBW_some h
    obtain ⟨_, _, _, z2, h⟩ := mBA_some h
    refine Nat.le_trans ?_ (MX5_writeLeast z2)
    cases h
    exact Nat.le_refl _
set_option maxHeartbeats 4000000 in
set_option maxRecDepth 100000 in
theorem LX5_solve {α : Nat → Nat} {F : Nat} {S : wPS} {Ln Ln1 : Nat → Nat} {V V1 : mV} {v : Unit} {Φ : (Unit → wPS → Prop)} {l0Ax : Nat} {l1Ax : Nat} {l1A : Nat} {k0 n0 : Nat} (h : mX5_solve F Ln l1A V = some (v, Ln1, V1)) (R : mRel α S Ln V) (sl1A : mK l1A = 3) (el0A : l0Ax = α 4) (el1A : l1Ax = α l1A) (hk : (mP Ln - mP Ln1) / 16 ≤ k0) (hn : mP Ln - mP Ln1 ≤ n0) (k : (∀ S1, mRel α S1 Ln1 V1 → mFr α S S1 → Φ v S1)) : rX5_solve F k0 n0 l0Ax l1Ax S Φ := by
  have el0A := el0A.symm
  subst el0A
  have el1A := el1A.symm
  subst el1A
  unfold mX5_solve at h
  unfold rX5_solve
  refine mLet h (by rw [show gEntry_itemCount S (α l1A) = V.fI l1A 6 from (mg_I (i := l1A) R (mO3 sl1A) rfl 6)]) (fun x1 ex1 h => ?_)
  obtain ⟨v2, V3, hv2, h⟩ := mBW_some h
  refine LX5_loadUnknowns hv2 R sl1A rfl rfl (fun S3 R3 F3 => ?_)
  obtain ⟨v7, V8, hv7, h⟩ := mBW_some h
  refine LX5_isFulfilled hv7 R3 rfl (fun S8 R8 F8 => ?_)
  refine mIf h Iff.rfl (fun c3 h => ?_) (fun c3 h => ?_)
  · obtain ⟨v13, V14, hv13, h⟩ := mBW_some h
    refine LX5_loadWeights hv13 R8 sl1A rfl rfl (fun S14 R14 F14 => ?_)
    obtain ⟨v18, V19, hv18, h⟩ := mBW_some h
    refine LX5_isFulfilled hv18 R14 rfl (fun S19 R19 F19 => ?_)
    obtain ⟨v23, L24, V24, hv23, h⟩ := mBA_some h
    have mv23 : mP L24 ≤ mP Ln := MX5_writeLeast hv23
    have qv23 : mP Ln1 ≤ mP L24 := by
      obtain ⟨_, _, _, h⟩ := mBW_some h
      cases h
      exact Nat.le_refl _
    refine ⟨(mP Ln - mP L24) / 16, mP Ln - mP L24, by omega, by omega, ?_⟩
    refine LX5_writeLeast hv23 R19 (mKe2 sl1A) rfl rfl (mg_A (t := (l1A + 2)) R19 (mRe sl1A rfl) rfl) (by omega) (by omega) (fun S24 R24 F24 => ?_)
    obtain ⟨v28, V29, hv28, h⟩ := mBW_some h
    refine LX3_tell hv28 R24 sl1A rfl rfl rfl (fun S29 R29 F29 => ?_)
    obtain ⟨rfl, rfl, rfl⟩ := mRA3 h
    exact k _ R29 (F3.tr (F8.tr (F14.tr (F19.tr (F24.tr F29)))))
  · refine mLet h (by rw [show gEntry_itemCount S8 (α l1A) = V8.fI l1A 6 from (mg_I (i := l1A) R8 (mO3 sl1A) rfl 6), show gEntry_size S8 (α l1A) = V8.fI l1A 1 from (mg_I (i := l1A) R8 (mO3 sl1A) rfl 1)]) (fun x33 ex33 h => ?_)
    obtain ⟨v34, V35, hv34, h⟩ := mBW_some h
    refine LX5_minimise hv34 R8 rfl rfl (fun S35 R35 F35 => ?_)
    obtain ⟨v39, hv39, h⟩ := mBN_some h
    refine LX5_valueOf hv39 R35 rfl rfl ?_
    refine mLet h (by rw [show gInequalities_lower S35 (α 4) = V35.fJ 4 6 from (mg_J (i := 4) R35 (by decide) rfl 6), show gEntry_boundNow S35 (α l1A) = V35.fI l1A 8 from (mg_I (i := l1A) R35 (mO3 sl1A) rfl 8)]) (fun x44 ex44 h => ?_)
    obtain ⟨v45, hv45, h⟩ := mBN_some h
    refine LJ9_floorDiv_f86c9 hv45 rfl (by rw [show gInequalities_lower S35 (α 4) = V35.fJ 4 6 from (mg_J (i := 4) R35 (by decide) rfl 6)]) ?_
    obtain ⟨v50, V51, hv50, h⟩ := mBW_some h
    refine LX3_tell hv50 R35 sl1A rfl rfl rfl (fun S51 R51 F51 => ?_)
    obtain ⟨v55, V56, hv55, h⟩ := mBW_some h
    refine LX5_loadUnknowns hv55 R51 sl1A rfl rfl (fun S56 R56 F56 => ?_)
    obtain ⟨v60, V61, hv60, h⟩ := mBW_some h
    refine LX5_isFulfilled hv60 R56 rfl (fun S61 R61 F61 => ?_)
    obtain ⟨v65, L66, V66, hv65, h⟩ := mBA_some h
    have mv65 : mP L66 ≤ mP Ln := MX5_writeLeast hv65
    have qv65 : mP Ln1 ≤ mP L66 := by
      cases h
      exact Nat.le_refl _
    refine ⟨(mP Ln - mP L66) / 16, mP Ln - mP L66, by omega, by omega, ?_⟩
    refine LX5_writeLeast hv65 R61 (mKe2 sl1A) rfl (by rw [show gEntry_size S61 (α l1A) = V61.fI l1A 1 from (mg_I (i := l1A) R61 (mO3 sl1A) rfl 1)]) (mg_A (t := (l1A + 2)) R61 (mRe sl1A rfl) rfl) (by omega) (by omega) (fun S66 R66 F66 => ?_)
    obtain ⟨rfl, rfl, rfl⟩ := mRA3 h
    exact k _ R66 (F3.tr (F8.tr (F35.tr (F51.tr (F56.tr (F61.tr F66))))))
end
