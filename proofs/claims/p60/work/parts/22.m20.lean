/-! LIFTED BY PROGRAM (lift.py): X5_minimise, X5_writeLeast, X6_writeLetters, X6_judgeLikeness. -/
section
def mX5_minimise_b0 (F : Nat) (rec : Nat → Int32 → Int32 → mV → Option (Unit × mV)) (l1I : Int32) (l2I : Int32) (V : mV) : Option (Unit × mV) :=
  (if (100000 : Int32) ≤ l2I then (mBN (mX5_rowOf F (l1I) V) fun v2 => (if 0 ≤ v2 then (mBW (mX5_lockRising F (v2) V) fun v8 V9 => some ((), V9)) else (mLt (mF V 4 3 (((V.fI 4 3) ||| ((1 : Int32) <<< (l1I &&& 31))))) fun V13 => some ((), V13)))) else (mBN (mX5_rowOf F (l1I) V) fun v14 => (if v14 < 0 then (mBN (mX5_rowOf F (l1I) V) fun v20 => (if 0 ≤ v20 then (mBW (mX5_lockRising F (v20) V) fun v26 V27 => some ((), V27)) else (mLt (mF V 4 3 (((V.fI 4 3) ||| ((1 : Int32) <<< (l1I &&& 31))))) fun V31 => some ((), V31)))) else (mBW (mX5_improves F (v14) V) fun v32 V33 => (if v32 = 0 then (mBN (mX5_rowOf F (l1I) V33) fun v39 => (if 0 ≤ v39 then (mBW (mX5_lockRising F (v39) V33) fun v45 V46 => some ((), V46)) else (mLt (mF V33 4 3 (((V33.fI 4 3) ||| ((1 : Int32) <<< (l1I &&& 31))))) fun V50 => some ((), V50)))) else (mLt (l2I + (1 : Int32)) fun x38 => (rec 0 (l1I) (x38) V33)))))))
def mX5_minimise_go (F : Nat) : Nat → Nat → Int32 → Int32 → mV → Option (Unit × mV)
  | 0, _, _, _, _ => none
  | k' + 1, lab, l1I, l2I, V => if lab = 0 then mX5_minimise_b0 F (mX5_minimise_go F k') l1I l2I V else none
def mX5_minimise_s (F : Nat) (rec : Nat → Int32 → Int32 → mV → Option (Unit × mV)) (l1I : Int32) (V : mV) : Option (Unit × mV) :=
  (rec 0 (l1I) ((0 : Int32)) V)
def mX5_minimise (F : Nat) (l1I : Int32) (V : mV) : Option (Unit × mV) := mX5_minimise_s F (mX5_minimise_go F F) l1I V
set_option maxHeartbeats 4000000 in
set_option maxRecDepth 100000 in
theorem LX5_minimise_go {α : Nat → Nat} {F : Nat} {Ln : Nat → Nat} {v : Unit} {V1 : mV} {Φ : (Unit → wPS → Prop)} : ∀ k' : Nat, (∀ (l1I : Int32) (l2I : Int32) (S : wPS) (V : mV) , mRel α S Ln V → mX5_minimise_go F k' 0 l1I l2I V = some (v, V1) → (∀ S1, mRel α S1 Ln V1 → mFr α S S1 → Φ v S1) → rX5_minimise_go F k' 0 (α 4) l1I l2I S Φ) := by
  intro k'
  induction k' with
  | zero => exact (fun _ _ _ _ _ h _ => by cases h)
  | succ k' ih =>
    intro l1I l2I S V R h k
    rw [mX5_minimise_go, if_pos rfl] at h
    rw [rX5_minimise_go, if_pos rfl]
    unfold mX5_minimise_b0 at h
    unfold rX5_minimise_b0
    refine mIf h Iff.rfl (fun c1 h => ?_) (fun c1 h => ?_)
    · obtain ⟨v2, hv2, h⟩ := mBN_some h
      refine LX5_rowOf hv2 R rfl rfl ?_
      refine mIf h Iff.rfl (fun c2 h => ?_) (fun c2 h => ?_)
      · obtain ⟨v8, V9, hv8, h⟩ := mBW_some h
        refine LX5_lockRising hv8 R rfl rfl (fun S9 R9 F9 => ?_)
        obtain ⟨rfl, rfl⟩ := mRW h
        exact k _ R9 F9
      · obtain ⟨V13, eV13, h⟩ := mLt_some h
        refine mU_F eV13 R (by decide) rfl (by rw [show gInequalities_locked S (α 4) = V.fI 4 3 from (mg_I (i := 4) R (by decide) rfl 3)]) (fun S13 R13 F13 => ?_)
        obtain ⟨rfl, rfl⟩ := mRW h
        exact k _ R13 F13
    · obtain ⟨v14, hv14, h⟩ := mBN_some h
      refine LX5_rowOf hv14 R rfl rfl ?_
      refine mIf h Iff.rfl (fun c3 h => ?_) (fun c3 h => ?_)
      · obtain ⟨v20, hv20, h⟩ := mBN_some h
        refine LX5_rowOf hv20 R rfl rfl ?_
        refine mIf h Iff.rfl (fun c4 h => ?_) (fun c4 h => ?_)
        · obtain ⟨v26, V27, hv26, h⟩ := mBW_some h
          refine LX5_lockRising hv26 R rfl rfl (fun S27 R27 F27 => ?_)
          obtain ⟨rfl, rfl⟩ := mRW h
          exact k _ R27 F27
        · obtain ⟨V31, eV31, h⟩ := mLt_some h
          refine mU_F eV31 R (by decide) rfl (by rw [show gInequalities_locked S (α 4) = V.fI 4 3 from (mg_I (i := 4) R (by decide) rfl 3)]) (fun S31 R31 F31 => ?_)
          obtain ⟨rfl, rfl⟩ := mRW h
          exact k _ R31 F31
      · obtain ⟨v32, V33, hv32, h⟩ := mBW_some h
        refine LX5_improves hv32 R rfl rfl (fun S33 R33 F33 => ?_)
        refine mIf h Iff.rfl (fun c5 h => ?_) (fun c5 h => ?_)
        · obtain ⟨v39, hv39, h⟩ := mBN_some h
          refine LX5_rowOf hv39 R33 rfl rfl ?_
          refine mIf h Iff.rfl (fun c6 h => ?_) (fun c6 h => ?_)
          · obtain ⟨v45, V46, hv45, h⟩ := mBW_some h
            refine LX5_lockRising hv45 R33 rfl rfl (fun S46 R46 F46 => ?_)
            obtain ⟨rfl, rfl⟩ := mRW h
            exact k _ R46 (F33.tr F46)
          · obtain ⟨V50, eV50, h⟩ := mLt_some h
            refine mU_F eV50 R33 (by decide) rfl (by rw [show gInequalities_locked S33 (α 4) = V33.fI 4 3 from (mg_I (i := 4) R33 (by decide) rfl 3)]) (fun S50 R50 F50 => ?_)
            obtain ⟨rfl, rfl⟩ := mRW h
            exact k _ R50 (F33.tr F50)
        · refine mLet h rfl (fun x38 ex38 h => ?_)
          exact ih _ _ _ _ R33 h (fun S1 R1 F1 => k S1 R1 (F33.tr F1))
set_option maxHeartbeats 4000000 in
set_option maxRecDepth 100000 in
theorem LX5_minimise {α : Nat → Nat} {F : Nat} {S : wPS} {Ln : Nat → Nat} {V V1 : mV} {v : Unit} {Φ : (Unit → wPS → Prop)} {l0Ax : Nat} {l1Ix l1I : Int32} (h : mX5_minimise F l1I V = some (v, V1)) (R : mRel α S Ln V) (el0A : l0Ax = α 4) (el1I : l1Ix = l1I) (k : (∀ S1, mRel α S1 Ln V1 → mFr α S S1 → Φ v S1)) : rX5_minimise F l0Ax l1Ix S Φ := by
  have el0A := el0A.symm
  subst el0A
  have el1I := el1I.symm
  subst el1I
  have ih := LX5_minimise_go  (α := α) (F := F) (v := v) (Ln := Ln) (Φ := Φ) (V1 := V1) F
  unfold mX5_minimise mX5_minimise_s at h
  unfold rX5_minimise rX5_minimise_s
  exact ih _ _ _ _ R h (fun S1 R1 F1 => k S1 R1 F1)
def mX5_writeLeast_b0 (F : Nat) (rec : Nat → (Nat → Nat) → Int32 → Nat → Int32 → Int64 → Int32 → mV → Option (Unit × (Nat → Nat) × mV)) (Ln : Nat → Nat) (l1I : Int32) (l2A : Nat) (l3I : Int32) (V : mV) : Option (Unit × (Nat → Nat) × mV) :=
  (if l1I ≤ l3I then (mLt (V.fJ 4 6) fun x2 => (rec 1 Ln (l1I) l2A 0 (x2) ((0 : Int32)) V)) else (mBW (mX5_minimise F (l3I) V) fun v3 V4 => (mLt (l3I + (1 : Int32)) fun x8 => (rec 0 Ln (l1I) l2A (x8) 0 0 V4))))
def mX5_writeLeast_b1 (F : Nat) (rec : Nat → (Nat → Nat) → Int32 → Nat → Int32 → Int64 → Int32 → mV → Option (Unit × (Nat → Nat) × mV)) (Ln : Nat → Nat) (l1I : Int32) (l2A : Nat) (l3J : Int64) (l5I : Int32) (V : mV) : Option (Unit × (Nat → Nat) × mV) :=
  (if l1I ≤ l5I then (if 0 ≤ (lg_cmp l3J (1 : Int64)) then (if l3J = 0 then none else (mBA (mX9_add F Ln l2A ((Int64.toInt32 ((V.fJ 4 6) / l3J))) V) fun v12 L13 V13 => (rec 2 L13 (l1I) l2A 0 (l3J) ((0 : Int32)) V13))) else some ((), Ln, V)) else (mBN (mX5_valueOf F (l5I) V) fun v17 => (mBN (mX11_divisorInCommon F (l3J) (v17)) fun v22 => (mLt (l5I + (1 : Int32)) fun x27 => (rec 1 Ln (l1I) l2A 0 (v22) (x27) V)))))
def mX5_writeLeast_b2 (F : Nat) (rec : Nat → (Nat → Nat) → Int32 → Nat → Int32 → Int64 → Int32 → mV → Option (Unit × (Nat → Nat) × mV)) (Ln : Nat → Nat) (l1I : Int32) (l2A : Nat) (l3J : Int64) (l5I : Int32) (V : mV) : Option (Unit × (Nat → Nat) × mV) :=
  (if l1I ≤ l5I then some ((), Ln, V) else (mBN (mX5_valueOf F (l5I) V) fun v29 => (if l3J = 0 then none else (mBA (mX9_add F Ln l2A ((Int64.toInt32 (v29 / l3J))) V) fun v35 L36 V36 => (mLt (l5I + (1 : Int32)) fun x40 => (rec 2 L36 (l1I) l2A 0 (l3J) (x40) V36))))))
def mX5_writeLeast_go (F : Nat) : Nat → Nat → (Nat → Nat) → Int32 → Nat → Int32 → Int64 → Int32 → mV → Option (Unit × (Nat → Nat) × mV)
  | 0, _, _, _, _, _, _, _, _ => none
  | k' + 1, lab, Ln, l1I, l2A, l3I, l3J, l5I, V => if lab = 0 then mX5_writeLeast_b0 F (mX5_writeLeast_go F k') Ln l1I l2A l3I V else if lab = 1 then mX5_writeLeast_b1 F (mX5_writeLeast_go F k') Ln l1I l2A l3J l5I V else if lab = 2 then mX5_writeLeast_b2 F (mX5_writeLeast_go F k') Ln l1I l2A l3J l5I V else none
def mX5_writeLeast_s (F : Nat) (rec : Nat → (Nat → Nat) → Int32 → Nat → Int32 → Int64 → Int32 → mV → Option (Unit × (Nat → Nat) × mV)) (Ln : Nat → Nat) (l1I : Int32) (l2A : Nat) (V : mV) : Option (Unit × (Nat → Nat) × mV) :=
  (rec 0 Ln (l1I) l2A ((0 : Int32)) 0 0 V)
def mX5_writeLeast (F : Nat) (Ln : Nat → Nat) (l1I : Int32) (l2A : Nat) (V : mV) : Option (Unit × (Nat → Nat) × mV) := mX5_writeLeast_s F (mX5_writeLeast_go F F) Ln l1I l2A V
set_option maxHeartbeats 4000000 in
set_option maxRecDepth 100000 in
theorem MX5_writeLeast_go {F : Nat} {v : Unit} {Ln1 : Nat → Nat} {V1 : mV} : ∀ k' : Nat, (∀ (l1I : Int32) (l2A : Nat) (l3I : Int32) (Ln : Nat → Nat) (V : mV), mX5_writeLeast_go F k' 0 Ln l1I l2A l3I 0 0 V = some (v, Ln1, V1) → mP Ln1 ≤ mP Ln) ∧ (∀ (l1I : Int32) (l2A : Nat) (l3J : Int64) (l5I : Int32) (Ln : Nat → Nat) (V : mV), mX5_writeLeast_go F k' 1 Ln l1I l2A 0 l3J l5I V = some (v, Ln1, V1) → mP Ln1 ≤ mP Ln) ∧ (∀ (l1I : Int32) (l2A : Nat) (l3J : Int64) (l5I : Int32) (Ln : Nat → Nat) (V : mV), mX5_writeLeast_go F k' 2 Ln l1I l2A 0 l3J l5I V = some (v, Ln1, V1) → mP Ln1 ≤ mP Ln) := by
  intro k'
  induction k' with
  | zero => exact ⟨(fun _ _ _ _ _ h => by cases h), (fun _ _ _ _ _ _ h => by cases h), (fun _ _ _ _ _ _ h => by cases h)⟩
  | succ k' ihM =>
    refine ⟨?_, ?_, ?_⟩
    · intro l1I l2A l3I Ln V h
      rw [mX5_writeLeast_go, if_pos rfl] at h
      unfold mX5_writeLeast_b0 at h
      rcases mIf_some h with ⟨_, h⟩ | ⟨_, h⟩
      · obtain ⟨_, _, h⟩ := mLt_some h
        exact ihM.2.1 _ _ _ _ _ _ h
      · obtain ⟨_, _, _, h⟩ := mBW_some h
        obtain ⟨_, _, h⟩ := mLt_some h
        exact ihM.1 _ _ _ _ _ h
    · intro l1I l2A l3J l5I Ln V h
      rw [mX5_writeLeast_go, if_neg (by decide), if_pos rfl] at h
      unfold mX5_writeLeast_b1 at h
      rcases mIf_some h with ⟨_, h⟩ | ⟨_, h⟩
      · rcases mIf_some h with ⟨_, h⟩ | ⟨_, h⟩
        · obtain ⟨_, h⟩ := mGd_some h
          obtain ⟨_, _, _, z1, h⟩ := mBA_some h
          refine Nat.le_trans ?_ (MX9_add z1)
          exact ihM.2.2 _ _ _ _ _ _ h
        · cases h
          exact Nat.le_refl _
      · obtain ⟨_, _, h⟩ := mBN_some h
        obtain ⟨_, _, h⟩ := mBN_some h
        obtain ⟨_, _, h⟩ := mLt_some h
        exact ihM.2.1 _ _ _ _ _ _ h
    · intro l1I l2A l3J l5I Ln V h
      rw [mX5_writeLeast_go, if_neg (by decide), if_neg (by decide), if_pos rfl] at h
      unfold mX5_writeLeast_b2 at h
      rcases mIf_some h with ⟨_, h⟩ | ⟨_, h⟩
      · cases h
        exact Nat.le_refl _
      · obtain ⟨_, _, h⟩ := mBN_some h
        obtain ⟨_, h⟩ := mGd_some h
        obtain ⟨_, _, _, z2, h⟩ := mBA_some h
        refine Nat.le_trans ?_ (MX9_add z2)
        obtain ⟨_, _, h⟩ := mLt_some h
        exact ihM.2.2 _ _ _ _ _ _ h
set_option maxHeartbeats 4000000 in
set_option maxRecDepth 100000 in
theorem MX5_writeLeast {F : Nat} {Ln Ln1 : Nat → Nat} {V V1 : mV} {v : Unit} {l1I : Int32} {l2A : Nat} (h : mX5_writeLeast F Ln l1I l2A V = some (v, Ln1, V1)) : mP Ln1 ≤ mP Ln := by
  have ihM := MX5_writeLeast_go (F := F) (v := v) (Ln1 := Ln1) (V1 := V1) F
  unfold mX5_writeLeast mX5_writeLeast_s at h
  exact ihM.1 _ _ _ _ _ h
set_option maxHeartbeats 4000000 in
set_option maxRecDepth 100000 in
theorem LX5_writeLeast_go {α : Nat → Nat} {k0 n0 : Nat} {F : Nat} {v : Unit} {Ln1 : Nat → Nat} {V1 : mV} {Φ : (Unit → wPS → Prop)} : ∀ k' : Nat, (∀ (l1I : Int32) (l2A : Nat) (l3I : Int32) (S : wPS) (V : mV) (Ln : Nat → Nat) (c s : Nat), mRel α S Ln V → mK l2A = 9 → mX5_writeLeast_go F k' 0 Ln l1I l2A l3I 0 0 V = some (v, Ln1, V1) → c + (mP Ln - mP Ln1) / 16 ≤ k0 → s + (mP Ln - mP Ln1) ≤ n0 → (∀ S1, mRel α S1 Ln1 V1 → mFr α S S1 → Φ v S1) → rX5_writeLeast_go F k0 n0 k' 0 c s (α 4) l1I (α l2A) l3I 0 0 S Φ) ∧ (∀ (l1I : Int32) (l2A : Nat) (l3J : Int64) (l5I : Int32) (S : wPS) (V : mV) (Ln : Nat → Nat) (c s : Nat), mRel α S Ln V → mK l2A = 9 → mX5_writeLeast_go F k' 1 Ln l1I l2A 0 l3J l5I V = some (v, Ln1, V1) → c + (mP Ln - mP Ln1) / 16 ≤ k0 → s + (mP Ln - mP Ln1) ≤ n0 → (∀ S1, mRel α S1 Ln1 V1 → mFr α S S1 → Φ v S1) → rX5_writeLeast_go F k0 n0 k' 1 c s (α 4) l1I (α l2A) 0 l3J l5I S Φ) ∧ (∀ (l1I : Int32) (l2A : Nat) (l3J : Int64) (l5I : Int32) (S : wPS) (V : mV) (Ln : Nat → Nat) (c s : Nat), mRel α S Ln V → mK l2A = 9 → mX5_writeLeast_go F k' 2 Ln l1I l2A 0 l3J l5I V = some (v, Ln1, V1) → c + (mP Ln - mP Ln1) / 16 ≤ k0 → s + (mP Ln - mP Ln1) ≤ n0 → (∀ S1, mRel α S1 Ln1 V1 → mFr α S S1 → Φ v S1) → rX5_writeLeast_go F k0 n0 k' 2 c s (α 4) l1I (α l2A) 0 l3J l5I S Φ) := by
  intro k'
  induction k' with
  | zero => exact ⟨(fun _ _ _ _ _ _ _ _ _ _ h _ _ _ => by cases h), (fun _ _ _ _ _ _ _ _ _ _ _ h _ _ _ => by cases h), (fun _ _ _ _ _ _ _ _ _ _ _ h _ _ _ => by cases h)⟩
  | succ k' ih =>
    have ihM := MX5_writeLeast_go (F := F) (v := v) (Ln1 := Ln1) (V1 := V1) k'
    refine ⟨?_, ?_, ?_⟩
    · intro l1I l2A l3I S V Ln c s R sl2A h hk hn k
      rw [mX5_writeLeast_go, if_pos rfl] at h
      rw [rX5_writeLeast_go, if_pos rfl]
      unfold mX5_writeLeast_b0 at h
      unfold rX5_writeLeast_b0
      refine mIf h Iff.rfl (fun c3 h => ?_) (fun c3 h => ?_)
      · refine mLet h (by rw [show gInequalities_lower S (α 4) = V.fJ 4 6 from (mg_J (i := 4) R (by decide) rfl 6)]) (fun x2 ex2 h => ?_)
        exact ih.2.1 _ _ _ _ _ _ _ _ _ R sl2A h (by omega) (by omega) (fun S1 R1 F1 => k S1 R1 F1)
      · obtain ⟨v3, V4, hv3, h⟩ := mBW_some h
        refine LX5_minimise hv3 R rfl rfl (fun S4 R4 F4 => ?_)
        refine mLet h rfl (fun x8 ex8 h => ?_)
        exact ih.1 _ _ _ _ _ _ _ _ R4 sl2A h (by omega) (by omega) (fun S1 R1 F1 => k S1 R1 (F4.tr F1))
    · intro l1I l2A l3J l5I S V Ln c s R sl2A h hk hn k
      rw [mX5_writeLeast_go, if_neg (by decide), if_pos rfl] at h
      rw [rX5_writeLeast_go, if_neg (by decide), if_pos rfl]
      unfold mX5_writeLeast_b1 at h
      unfold rX5_writeLeast_b1
      refine mIf h Iff.rfl (fun c4 h => ?_) (fun c4 h => ?_)
      · refine mIf h Iff.rfl (fun c5 h => ?_) (fun c5 h => ?_)
        · refine mGd h Iff.rfl (fun c6 h => ?_)
          obtain ⟨v12, L13, V13, hv12, h⟩ := mBA_some h
          have mv12 : mP L13 ≤ mP Ln := MX9_add hv12
          have qv12 : mP Ln1 ≤ mP L13 := by
            exact ihM.2.2 _ _ _ _ _ _ h
          refine ⟨(mP Ln - mP L13) / 16, mP Ln - mP L13, by omega, by omega, ?_⟩
          refine LX9_add hv12 R sl2A rfl (by rw [show gInequalities_lower S (α 4) = V.fJ 4 6 from (mg_J (i := 4) R (by decide) rfl 6)]) (by omega) (by omega) (fun S13 R13 F13 => ?_)
          exact ih.2.2 _ _ _ _ _ _ _ _ _ R13 sl2A h (by omega) (by omega) (fun S1 R1 F1 => k S1 R1 (F13.tr F1))
        · obtain ⟨rfl, rfl, rfl⟩ := mRA3 h
          exact k _ R mFr.rf
      · obtain ⟨v17, hv17, h⟩ := mBN_some h
        refine LX5_valueOf hv17 R rfl rfl ?_
        obtain ⟨v22, hv22, h⟩ := mBN_some h
        refine LX11_divisorInCommon hv22 rfl rfl ?_
        refine mLet h rfl (fun x27 ex27 h => ?_)
        exact ih.2.1 _ _ _ _ _ _ _ _ _ R sl2A h (by omega) (by omega) (fun S1 R1 F1 => k S1 R1 F1)
    · intro l1I l2A l3J l5I S V Ln c s R sl2A h hk hn k
      rw [mX5_writeLeast_go, if_neg (by decide), if_neg (by decide), if_pos rfl] at h
      rw [rX5_writeLeast_go, if_neg (by decide), if_neg (by decide), if_pos rfl]
      unfold mX5_writeLeast_b2 at h
      unfold rX5_writeLeast_b2
      refine mIf h Iff.rfl (fun c7 h => ?_) (fun c7 h => ?_)
      · obtain ⟨rfl, rfl, rfl⟩ := mRA3 h
        exact k _ R mFr.rf
      · obtain ⟨v29, hv29, h⟩ := mBN_some h
        refine LX5_valueOf hv29 R rfl rfl ?_
        refine mGd h Iff.rfl (fun c8 h => ?_)
        obtain ⟨v35, L36, V36, hv35, h⟩ := mBA_some h
        have mv35 : mP L36 ≤ mP Ln := MX9_add hv35
        have qv35 : mP Ln1 ≤ mP L36 := by
          obtain ⟨_, _, h⟩ := mLt_some h
          exact ihM.2.2 _ _ _ _ _ _ h
        refine ⟨(mP Ln - mP L36) / 16, mP Ln - mP L36, by omega, by omega, ?_⟩
        refine LX9_add hv35 R sl2A rfl rfl (by omega) (by omega) (fun S36 R36 F36 => ?_)
        refine mLet h rfl (fun x40 ex40 h => ?_)
        exact ih.2.2 _ _ _ _ _ _ _ _ _ R36 sl2A h (by omega) (by omega) (fun S1 R1 F1 => k S1 R1 (F36.tr F1))
set_option maxHeartbeats 4000000 in
set_option maxRecDepth 100000 in
theorem LX5_writeLeast {α : Nat → Nat} {F : Nat} {S : wPS} {Ln Ln1 : Nat → Nat} {V V1 : mV} {v : Unit} {Φ : (Unit → wPS → Prop)} {l0Ax : Nat} {l1Ix l1I : Int32} {l2Ax : Nat} {l2A : Nat} {k0 n0 : Nat} (h : mX5_writeLeast F Ln l1I l2A V = some (v, Ln1, V1)) (R : mRel α S Ln V) (sl2A : mK l2A = 9) (el0A : l0Ax = α 4) (el1I : l1Ix = l1I) (el2A : l2Ax = α l2A) (hk : (mP Ln - mP Ln1) / 16 ≤ k0) (hn : mP Ln - mP Ln1 ≤ n0) (k : (∀ S1, mRel α S1 Ln1 V1 → mFr α S S1 → Φ v S1)) : rX5_writeLeast F k0 n0 l0Ax l1Ix l2Ax S Φ := by
  have el0A := el0A.symm
  subst el0A
  have el1I := el1I.symm
  subst el1I
  have el2A := el2A.symm
  subst el2A
  have ih := LX5_writeLeast_go  (α := α) (F := F) (v := v) (k0 := k0) (n0 := n0) (Ln1 := Ln1) (Φ := Φ) (V1 := V1) F
  have ihM := MX5_writeLeast_go (F := F) (v := v) (Ln1 := Ln1) (V1 := V1) F
  unfold mX5_writeLeast mX5_writeLeast_s at h
  unfold rX5_writeLeast rX5_writeLeast_s
  exact ih.1 _ _ _ _ _ _ _ _ R sl2A h (by omega) (by omega) (fun S1 R1 F1 => k S1 R1 F1)
def mX6_writeLetters_b0 (F : Nat) (rec : Nat → (Nat → Nat) → Nat → Int32 → Int32 → Int32 → Int32 → Nat → Int32 → mV → Option (Unit × (Nat → Nat) × mV)) (Ln : Nat → Nat) (l2A : Nat) (l3I : Int32) (l4I : Int32) (l5I : Int32) (V : mV) : Option (Unit × (Nat → Nat) × mV) :=
  (if l5I ≤ 0 then some ((), Ln, V) else (if l3I < 0 ∨ 8 ≤ (l3I).toNatClampNeg then none else (if l4I < 0 ∨ 8 ≤ (l4I).toNatClampNeg then none else (mBN (mX6_lettersAt F ((V.rI 84 (l3I).toNatClampNeg)) ((V.rI 84 (l4I).toNatClampNeg)) V) fun v4 => (if v4 = (l5I - (1 : Int32)) then (rec 1 Ln l2A (l3I) (l4I) (l5I) ((1 : Int32)) l2A ((0 : Int32)) V) else (rec 1 Ln l2A (l3I) (l4I) (l5I) ((0 : Int32)) l2A ((1 : Int32)) V))))))
def mX6_writeLetters_b1 (F : Nat) (rec : Nat → (Nat → Nat) → Nat → Int32 → Int32 → Int32 → Int32 → Nat → Int32 → mV → Option (Unit × (Nat → Nat) × mV)) (Ln : Nat → Nat) (l2A : Nat) (l3I : Int32) (l4I : Int32) (l5I : Int32) (l6I : Int32) (s0A : Nat) (s1I : Int32) (V : mV) : Option (Unit × (Nat → Nat) × mV) :=
  (mBA (mX9_add F Ln s0A (s1I) V) fun v10 L11 V11 => (if l6I = 0 then (if l3I < 0 ∨ 8 ≤ (l3I).toNatClampNeg then none else (mLt (V11.rI 85 (l3I).toNatClampNeg) fun x17 => (if l6I = 0 then (if l4I < 0 ∨ 8 ≤ (l4I).toNatClampNeg then none else (mLt (V11.rI 85 (l4I).toNatClampNeg) fun x20 => (mLt (l5I + (-1 : Int32)) fun x21 => (rec 0 L11 l2A (x17) (x20) (x21) 0 0 0 V11)))) else (if l4I < 0 ∨ 8 ≤ (l4I).toNatClampNeg then none else (mLt (V11.rI 84 (l4I).toNatClampNeg) fun x23 => (mLt (l5I + (-1 : Int32)) fun x24 => (rec 0 L11 l2A (x17) (x23) (x24) 0 0 0 V11))))))) else (if l3I < 0 ∨ 8 ≤ (l3I).toNatClampNeg then none else (mLt (V11.rI 84 (l3I).toNatClampNeg) fun x26 => (if l6I = 0 then (if l4I < 0 ∨ 8 ≤ (l4I).toNatClampNeg then none else (mLt (V11.rI 85 (l4I).toNatClampNeg) fun x29 => (mLt (l5I + (-1 : Int32)) fun x30 => (rec 0 L11 l2A (x26) (x29) (x30) 0 0 0 V11)))) else (if l4I < 0 ∨ 8 ≤ (l4I).toNatClampNeg then none else (mLt (V11.rI 84 (l4I).toNatClampNeg) fun x32 => (mLt (l5I + (-1 : Int32)) fun x33 => (rec 0 L11 l2A (x26) (x32) (x33) 0 0 0 V11)))))))))
def mX6_writeLetters_go (F : Nat) : Nat → Nat → (Nat → Nat) → Nat → Int32 → Int32 → Int32 → Int32 → Nat → Int32 → mV → Option (Unit × (Nat → Nat) × mV)
  | 0, _, _, _, _, _, _, _, _, _, _ => none
  | k' + 1, lab, Ln, l2A, l3I, l4I, l5I, l6I, s0A, s1I, V => if lab = 0 then mX6_writeLetters_b0 F (mX6_writeLetters_go F k') Ln l2A l3I l4I l5I V else if lab = 1 then mX6_writeLetters_b1 F (mX6_writeLetters_go F k') Ln l2A l3I l4I l5I l6I s0A s1I V else none
def mX6_writeLetters_s (F : Nat) (rec : Nat → (Nat → Nat) → Nat → Int32 → Int32 → Int32 → Int32 → Nat → Int32 → mV → Option (Unit × (Nat → Nat) × mV)) (Ln : Nat → Nat) (l1I : Int32) (l2A : Nat) (V : mV) : Option (Unit × (Nat → Nat) × mV) :=
  (mBN (mX6_lettersAt F ((0 : Int32)) (l1I) V) fun v34 => (rec 0 Ln l2A ((0 : Int32)) (l1I) (v34) 0 0 0 V))
def mX6_writeLetters (F : Nat) (Ln : Nat → Nat) (l1I : Int32) (l2A : Nat) (V : mV) : Option (Unit × (Nat → Nat) × mV) := mX6_writeLetters_s F (mX6_writeLetters_go F F) Ln l1I l2A V
set_option maxHeartbeats 4000000 in
set_option maxRecDepth 100000 in
theorem MX6_writeLetters_go {F : Nat} {v : Unit} {Ln1 : Nat → Nat} {V1 : mV} : ∀ k' : Nat, (∀ (l2A : Nat) (l3I : Int32) (l4I : Int32) (l5I : Int32) (Ln : Nat → Nat) (V : mV), mX6_writeLetters_go F k' 0 Ln l2A l3I l4I l5I 0 0 0 V = some (v, Ln1, V1) → mP Ln1 ≤ mP Ln) ∧ (∀ (l2A : Nat) (l3I : Int32) (l4I : Int32) (l5I : Int32) (l6I : Int32) (s0A : Nat) (s1I : Int32) (Ln : Nat → Nat) (V : mV), mX6_writeLetters_go F k' 1 Ln l2A l3I l4I l5I l6I s0A s1I V = some (v, Ln1, V1) → mP Ln1 ≤ mP Ln) := by
  intro k'
  induction k' with
  | zero => exact ⟨(fun _ _ _ _ _ _ h => by cases h), (fun _ _ _ _ _ _ _ _ _ h => by cases h)⟩
  | succ k' ihM =>
    refine ⟨?_, ?_⟩
    · intro l2A l3I l4I l5I Ln V h
      rw [mX6_writeLetters_go, if_pos rfl] at h
      unfold mX6_writeLetters_b0 at h
      rcases mIf_some h with ⟨_, h⟩ | ⟨_, h⟩
      · cases h
        exact Nat.le_refl _
      · obtain ⟨_, h⟩ := mGd_some h
        obtain ⟨_, h⟩ := mGd_some h
        obtain ⟨_, _, h⟩ := mBN_some h
        rcases mIf_some h with ⟨_, h⟩ | ⟨_, h⟩
        · exact ihM.2 _ _ _ _ _ _ _ _ _ h
        · exact ihM.2 _ _ _ _ _ _ _ _ _ h
    · intro l2A l3I l4I l5I l6I s0A s1I Ln V h
      rw [mX6_writeLetters_go, if_neg (by decide), if_pos rfl] at h
      unfold mX6_writeLetters_b1 at h
      obtain ⟨_, _, _, z1, h⟩ := mBA_some h
      refine Nat.le_trans ?_ (MX9_add z1)
      rcases mIf_some h with ⟨_, h⟩ | ⟨_, h⟩
      · obtain ⟨_, h⟩ := mGd_some h
        obtain ⟨_, _, h⟩ := mLt_some h
        rcases mIf_some h with ⟨_, h⟩ | ⟨_, h⟩
        · obtain ⟨_, h⟩ := mGd_some h
          obtain ⟨_, _, h⟩ := mLt_some h
          obtain ⟨_, _, h⟩ := mLt_some h
          exact ihM.1 _ _ _ _ _ _ h
        · obtain ⟨_, h⟩ := mGd_some h
          obtain ⟨_, _, h⟩ := mLt_some h
          obtain ⟨_, _, h⟩ := mLt_some h
          exact ihM.1 _ _ _ _ _ _ h
      · obtain ⟨_, h⟩ := mGd_some h
        obtain ⟨_, _, h⟩ := mLt_some h
        rcases mIf_some h with ⟨_, h⟩ | ⟨_, h⟩
        · obtain ⟨_, h⟩ := mGd_some h
          obtain ⟨_, _, h⟩ := mLt_some h
          obtain ⟨_, _, h⟩ := mLt_some h
          exact ihM.1 _ _ _ _ _ _ h
        · obtain ⟨_, h⟩ := mGd_some h
          obtain ⟨_, _, h⟩ := mLt_some h
          obtain ⟨_, _, h⟩ := mLt_some h
          exact ihM.1 _ _ _ _ _ _ h
set_option maxHeartbeats 4000000 in
set_option maxRecDepth 100000 in
theorem MX6_writeLetters {F : Nat} {Ln Ln1 : Nat → Nat} {V V1 : mV} {v : Unit} {l1I : Int32} {l2A : Nat} (h : mX6_writeLetters F Ln l1I l2A V = some (v, Ln1, V1)) : mP Ln1 ≤ mP Ln := by
  have ihM := MX6_writeLetters_go (F := F) (v := v) (Ln1 := Ln1) (V1 := V1) F
  unfold mX6_writeLetters mX6_writeLetters_s at h
  obtain ⟨_, _, h⟩ := mBN_some h
  exact ihM.1 _ _ _ _ _ _ h
set_option maxHeartbeats 4000000 in
set_option maxRecDepth 100000 in
theorem LX6_writeLetters_go {α : Nat → Nat} {k0 n0 : Nat} {F : Nat} {v : Unit} {Ln1 : Nat → Nat} {V1 : mV} {Φ : (Unit → wPS → Prop)} : ∀ k' : Nat, (∀ (l2A : Nat) (l3I : Int32) (l4I : Int32) (l5I : Int32) (S : wPS) (V : mV) (Ln : Nat → Nat) (c s : Nat), mRel α S Ln V → mK l2A = 9 → mX6_writeLetters_go F k' 0 Ln l2A l3I l4I l5I 0 0 0 V = some (v, Ln1, V1) → c + (mP Ln - mP Ln1) / 16 ≤ k0 → s + (mP Ln - mP Ln1) ≤ n0 → (∀ S1, mRel α S1 Ln1 V1 → mFr α S S1 → Φ v S1) → rX6_writeLetters_go F k0 n0 k' 0 c s (α 8) (α l2A) l3I l4I l5I 0 0 0 S Φ) ∧ (∀ (l2A : Nat) (l3I : Int32) (l4I : Int32) (l5I : Int32) (l6I : Int32) (s0A : Nat) (s1I : Int32) (S : wPS) (V : mV) (Ln : Nat → Nat) (c s : Nat), mRel α S Ln V → mK l2A = 9 → mK s0A = 9 → mX6_writeLetters_go F k' 1 Ln l2A l3I l4I l5I l6I s0A s1I V = some (v, Ln1, V1) → c + (mP Ln - mP Ln1) / 16 ≤ k0 → s + (mP Ln - mP Ln1) ≤ n0 → (∀ S1, mRel α S1 Ln1 V1 → mFr α S S1 → Φ v S1) → rX6_writeLetters_go F k0 n0 k' 1 c s (α 8) (α l2A) l3I l4I l5I l6I (α s0A) s1I S Φ) := by
  intro k'
  induction k' with
  | zero => exact ⟨(fun _ _ _ _ _ _ _ _ _ _ _ h _ _ _ => by cases h), (fun _ _ _ _ _ _ _ _ _ _ _ _ _ _ _ h _ _ _ => by cases h)⟩
  | succ k' ih =>
    have ihM := MX6_writeLetters_go (F := F) (v := v) (Ln1 := Ln1) (V1 := V1) k'
    refine ⟨?_, ?_⟩
    · intro l2A l3I l4I l5I S V Ln c s R sl2A h hk hn k
      rw [mX6_writeLetters_go, if_pos rfl] at h
      rw [rX6_writeLetters_go, if_pos rfl]
      unfold mX6_writeLetters_b0 at h
      unfold rX6_writeLetters_b0
      refine mIf h Iff.rfl (fun c2 h => ?_) (fun c2 h => ?_)
      · obtain ⟨rfl, rfl, rfl⟩ := mRA3 h
        exact k _ R mFr.rf
      · refine mGd h (by rw [show S.len (wkAd (gMachines_byZero S (α 8))) = 8 from (mg_len (i := 84) R (mA13 rfl) (mg_A (t := 84) R rfl rfl))]) (fun c3 h => ?_)
        refine mGd h (by rw [show S.len (wkAd (gMachines_byZero S (α 8))) = 8 from (mg_len (i := 84) R (mA13 rfl) (mg_A (t := 84) R rfl rfl))]) (fun c4 h => ?_)
        obtain ⟨v4, hv4, h⟩ := mBN_some h
        refine LX6_lettersAt hv4 R rfl (by rw [show S.rI (wkAd (gMachines_byZero S (α 8))) (l3I).toNatClampNeg = V.rI 84 (l3I).toNatClampNeg from (mg_rI (i := 84) R (mA13 rfl) (mg_A (t := 84) R rfl rfl) rfl)]) (by rw [show S.rI (wkAd (gMachines_byZero S (α 8))) (l4I).toNatClampNeg = V.rI 84 (l4I).toNatClampNeg from (mg_rI (i := 84) R (mA13 rfl) (mg_A (t := 84) R rfl rfl) rfl)]) ?_
        refine mIf h Iff.rfl (fun c5 h => ?_) (fun c5 h => ?_)
        · exact ih.2 _ _ _ _ _ _ _ _ _ _ _ _ R sl2A sl2A h (by omega) (by omega) (fun S1 R1 F1 => k S1 R1 F1)
        · exact ih.2 _ _ _ _ _ _ _ _ _ _ _ _ R sl2A sl2A h (by omega) (by omega) (fun S1 R1 F1 => k S1 R1 F1)
    · intro l2A l3I l4I l5I l6I s0A s1I S V Ln c s R sl2A ss0A h hk hn k
      rw [mX6_writeLetters_go, if_neg (by decide), if_pos rfl] at h
      rw [rX6_writeLetters_go, if_neg (by decide), if_pos rfl]
      unfold mX6_writeLetters_b1 at h
      unfold rX6_writeLetters_b1
      obtain ⟨v10, L11, V11, hv10, h⟩ := mBA_some h
      have mv10 : mP L11 ≤ mP Ln := MX9_add hv10
      have qv10 : mP Ln1 ≤ mP L11 := by
        rcases mIf_some h with ⟨_, h⟩ | ⟨_, h⟩
        · obtain ⟨_, h⟩ := mGd_some h
          obtain ⟨_, _, h⟩ := mLt_some h
          rcases mIf_some h with ⟨_, h⟩ | ⟨_, h⟩
          · obtain ⟨_, h⟩ := mGd_some h
            obtain ⟨_, _, h⟩ := mLt_some h
            obtain ⟨_, _, h⟩ := mLt_some h
            exact ihM.1 _ _ _ _ _ _ h
          · obtain ⟨_, h⟩ := mGd_some h
            obtain ⟨_, _, h⟩ := mLt_some h
            obtain ⟨_, _, h⟩ := mLt_some h
            exact ihM.1 _ _ _ _ _ _ h
        · obtain ⟨_, h⟩ := mGd_some h
          obtain ⟨_, _, h⟩ := mLt_some h
          rcases mIf_some h with ⟨_, h⟩ | ⟨_, h⟩
          · obtain ⟨_, h⟩ := mGd_some h
            obtain ⟨_, _, h⟩ := mLt_some h
            obtain ⟨_, _, h⟩ := mLt_some h
            exact ihM.1 _ _ _ _ _ _ h
          · obtain ⟨_, h⟩ := mGd_some h
            obtain ⟨_, _, h⟩ := mLt_some h
            obtain ⟨_, _, h⟩ := mLt_some h
            exact ihM.1 _ _ _ _ _ _ h
      refine ⟨(mP Ln - mP L11) / 16, mP Ln - mP L11, by omega, by omega, ?_⟩
      refine LX9_add hv10 R ss0A rfl rfl (by omega) (by omega) (fun S11 R11 F11 => ?_)
      refine mIf h Iff.rfl (fun c6 h => ?_) (fun c6 h => ?_)
      · refine mGd h (by rw [show S11.len (wkAd (gMachines_byOne S11 (α 8))) = 8 from (mg_len (i := 85) R11 (mA13 rfl) (mg_A (t := 85) R11 rfl rfl))]) (fun c7 h => ?_)
        refine mLet h (by rw [show S11.rI (wkAd (gMachines_byOne S11 (α 8))) (l3I).toNatClampNeg = V11.rI 85 (l3I).toNatClampNeg from (mg_rI (i := 85) R11 (mA13 rfl) (mg_A (t := 85) R11 rfl rfl) rfl)]) (fun x17 ex17 h => ?_)
        refine mIf h Iff.rfl (fun c8 h => ?_) (fun c8 h => ?_)
        · refine mGd h (by rw [show S11.len (wkAd (gMachines_byOne S11 (α 8))) = 8 from (mg_len (i := 85) R11 (mA13 rfl) (mg_A (t := 85) R11 rfl rfl))]) (fun c9 h => ?_)
          refine mLet h (by rw [show S11.rI (wkAd (gMachines_byOne S11 (α 8))) (l4I).toNatClampNeg = V11.rI 85 (l4I).toNatClampNeg from (mg_rI (i := 85) R11 (mA13 rfl) (mg_A (t := 85) R11 rfl rfl) rfl)]) (fun x20 ex20 h => ?_)
          refine mLet h rfl (fun x21 ex21 h => ?_)
          exact ih.1 _ _ _ _ _ _ _ _ _ R11 sl2A h (by omega) (by omega) (fun S1 R1 F1 => k S1 R1 (F11.tr F1))
        · refine mGd h (by rw [show S11.len (wkAd (gMachines_byZero S11 (α 8))) = 8 from (mg_len (i := 84) R11 (mA13 rfl) (mg_A (t := 84) R11 rfl rfl))]) (fun c10 h => ?_)
          refine mLet h (by rw [show S11.rI (wkAd (gMachines_byZero S11 (α 8))) (l4I).toNatClampNeg = V11.rI 84 (l4I).toNatClampNeg from (mg_rI (i := 84) R11 (mA13 rfl) (mg_A (t := 84) R11 rfl rfl) rfl)]) (fun x23 ex23 h => ?_)
          refine mLet h rfl (fun x24 ex24 h => ?_)
          exact ih.1 _ _ _ _ _ _ _ _ _ R11 sl2A h (by omega) (by omega) (fun S1 R1 F1 => k S1 R1 (F11.tr F1))
      · refine mGd h (by rw [show S11.len (wkAd (gMachines_byZero S11 (α 8))) = 8 from (mg_len (i := 84) R11 (mA13 rfl) (mg_A (t := 84) R11 rfl rfl))]) (fun c11 h => ?_)
        refine mLet h (by rw [show S11.rI (wkAd (gMachines_byZero S11 (α 8))) (l3I).toNatClampNeg = V11.rI 84 (l3I).toNatClampNeg from (mg_rI (i := 84) R11 (mA13 rfl) (mg_A (t := 84) R11 rfl rfl) rfl)]) (fun x26 ex26 h => ?_)
        refine mIf h Iff.rfl (fun c12 h => ?_) (fun c12 h => ?_)
        · refine mGd h (by rw [show S11.len (wkAd (gMachines_byOne S11 (α 8))) = 8 from (mg_len (i := 85) R11 (mA13 rfl) (mg_A (t := 85) R11 rfl rfl))]) (fun c13 h => ?_)
          refine mLet h (by rw [show S11.rI (wkAd (gMachines_byOne S11 (α 8))) (l4I).toNatClampNeg = V11.rI 85 (l4I).toNatClampNeg from (mg_rI (i := 85) R11 (mA13 rfl) (mg_A (t := 85) R11 rfl rfl) rfl)]) (fun x29 ex29 h => ?_)
          refine mLet h rfl (fun x30 ex30 h => ?_)
          exact ih.1 _ _ _ _ _ _ _ _ _ R11 sl2A h (by omega) (by omega) (fun S1 R1 F1 => k S1 R1 (F11.tr F1))
        · refine mGd h (by rw [show S11.len (wkAd (gMachines_byZero S11 (α 8))) = 8 from (mg_len (i := 84) R11 (mA13 rfl) (mg_A (t := 84) R11 rfl rfl))]) (fun c14 h => ?_)
          refine mLet h (by rw [show S11.rI (wkAd (gMachines_byZero S11 (α 8))) (l4I).toNatClampNeg = V11.rI 84 (l4I).toNatClampNeg from (mg_rI (i := 84) R11 (mA13 rfl) (mg_A (t := 84) R11 rfl rfl) rfl)]) (fun x32 ex32 h => ?_)
          refine mLet h rfl (fun x33 ex33 h => ?_)
          exact ih.1 _ _ _ _ _ _ _ _ _ R11 sl2A h (by omega) (by omega) (fun S1 R1 F1 => k S1 R1 (F11.tr F1))
set_option maxHeartbeats 4000000 in
set_option maxRecDepth 100000 in
theorem LX6_writeLetters {α : Nat → Nat} {F : Nat} {S : wPS} {Ln Ln1 : Nat → Nat} {V V1 : mV} {v : Unit} {Φ : (Unit → wPS → Prop)} {l0Ax : Nat} {l1Ix l1I : Int32} {l2Ax : Nat} {l2A : Nat} {k0 n0 : Nat} (h : mX6_writeLetters F Ln l1I l2A V = some (v, Ln1, V1)) (R : mRel α S Ln V) (sl2A : mK l2A = 9) (el0A : l0Ax = α 8) (el1I : l1Ix = l1I) (el2A : l2Ax = α l2A) (hk : (mP Ln - mP Ln1) / 16 ≤ k0) (hn : mP Ln - mP Ln1 ≤ n0) (k : (∀ S1, mRel α S1 Ln1 V1 → mFr α S S1 → Φ v S1)) : rX6_writeLetters F k0 n0 l0Ax l1Ix l2Ax S Φ := by
  have el0A := el0A.symm
  subst el0A
  have el1I := el1I.symm
  subst el1I
  have el2A := el2A.symm
  subst el2A
  have ih := LX6_writeLetters_go  (α := α) (F := F) (v := v) (k0 := k0) (n0 := n0) (Ln1 := Ln1) (Φ := Φ) (V1 := V1) F
  have ihM := MX6_writeLetters_go (F := F) (v := v) (Ln1 := Ln1) (V1 := V1) F
  unfold mX6_writeLetters mX6_writeLetters_s at h
  unfold rX6_writeLetters rX6_writeLetters_s
  obtain ⟨v34, hv34, h⟩ := mBN_some h
  refine LX6_lettersAt hv34 R rfl rfl rfl ?_
  exact ih.1 _ _ _ _ _ _ _ _ _ R sl2A h (by omega) (by omega) (fun S1 R1 F1 => k S1 R1 F1)
def mX6_judgeLikeness_b0 (F : Nat) (rec : Nat → (Nat → Nat) → Nat → Nat → Int32 → Int32 → mV → Option (Int32 × mV)) (Ln : Nat → Nat) (l1A : Nat) (l2A : Nat) (l3I : Int32) (V : mV) : Option (Int32 × mV) :=
  (if (V.fI 8 7) ≤ l3I then (rec 2 Ln l1A l2A ((0 : Int32)) 0 V) else (rec 1 Ln l1A l2A (l3I) ((0 : Int32)) V))
def mX6_judgeLikeness_b1 (F : Nat) (rec : Nat → (Nat → Nat) → Nat → Nat → Int32 → Int32 → mV → Option (Int32 × mV)) (Ln : Nat → Nat) (l1A : Nat) (l2A : Nat) (l3I : Int32) (l4I : Int32) (V : mV) : Option (Int32 × mV) :=
  (if l3I ≤ l4I then (mLt (l3I + (1 : Int32)) fun x3 => (rec 0 Ln l1A l2A (x3) 0 V)) else (mBN (mX9_at F Ln l2A (l3I) V) fun v4 => (mBN (mX9_at F Ln l2A (l4I) V) fun v9 => (if v4 = v9 then (if l3I < 0 ∨ 8 ≤ (l3I).toNatClampNeg then none else (if l4I < 0 ∨ 8 ≤ (l4I).toNatClampNeg then none else (if (V.rI 86 (l3I).toNatClampNeg) = (V.rI 86 (l4I).toNatClampNeg) then (mLt (l4I + (1 : Int32)) fun x19 => (rec 1 Ln l1A l2A (l3I) (x19) V)) else some ((2 : Int32), V)))) else (mLt (l4I + (1 : Int32)) fun x15 => (rec 1 Ln l1A l2A (l3I) (x15) V))))))
def mX6_judgeLikeness_b2 (F : Nat) (rec : Nat → (Nat → Nat) → Nat → Nat → Int32 → Int32 → mV → Option (Int32 × mV)) (Ln : Nat → Nat) (l1A : Nat) (l2A : Nat) (l3I : Int32) (V : mV) : Option (Int32 × mV) :=
  (if (V.fI 8 7) ≤ l3I then (mBN (mX9_at F Ln l2A ((0 : Int32)) V) fun v21 => (mBN (mX3_nodeAsked F l1A V) fun v26 => (mBN (mX9_at F Ln l2A (v26) V) fun v31 => (if v21 = v31 then some ((0 : Int32), V) else some ((4 : Int32), V))))) else (rec 3 Ln l1A l2A (l3I) ((0 : Int32)) V))
def mX6_judgeLikeness_b3 (F : Nat) (rec : Nat → (Nat → Nat) → Nat → Nat → Int32 → Int32 → mV → Option (Int32 × mV)) (Ln : Nat → Nat) (l1A : Nat) (l2A : Nat) (l3I : Int32) (l4I : Int32) (V : mV) : Option (Int32 × mV) :=
  (if l3I ≤ l4I then (mLt (l3I + (1 : Int32)) fun x38 => (rec 2 Ln l1A l2A (x38) 0 V)) else (mBN (mX9_at F Ln l2A (l3I) V) fun v39 => (mBN (mX9_at F Ln l2A (l4I) V) fun v44 => (if v39 = v44 then (mBN (mX6_goAlike F Ln l2A (l3I) (l4I) V) fun v51 => (if v51 = 0 then some ((3 : Int32), V) else (mLt (l4I + (1 : Int32)) fun x57 => (rec 3 Ln l1A l2A (l3I) (x57) V)))) else (mLt (l4I + (1 : Int32)) fun x50 => (rec 3 Ln l1A l2A (l3I) (x50) V))))))
def mX6_judgeLikeness_go (F : Nat) : Nat → Nat → (Nat → Nat) → Nat → Nat → Int32 → Int32 → mV → Option (Int32 × mV)
  | 0, _, _, _, _, _, _, _ => none
  | k' + 1, lab, Ln, l1A, l2A, l3I, l4I, V => if lab = 0 then mX6_judgeLikeness_b0 F (mX6_judgeLikeness_go F k') Ln l1A l2A l3I V else if lab = 1 then mX6_judgeLikeness_b1 F (mX6_judgeLikeness_go F k') Ln l1A l2A l3I l4I V else if lab = 2 then mX6_judgeLikeness_b2 F (mX6_judgeLikeness_go F k') Ln l1A l2A l3I V else if lab = 3 then mX6_judgeLikeness_b3 F (mX6_judgeLikeness_go F k') Ln l1A l2A l3I l4I V else none
def mX6_judgeLikeness_s (F : Nat) (rec : Nat → (Nat → Nat) → Nat → Nat → Int32 → Int32 → mV → Option (Int32 × mV)) (Ln : Nat → Nat) (l1A : Nat) (l2A : Nat) (V : mV) : Option (Int32 × mV) :=
  (mBW (mX6_loadStates F l1A V) fun v58 V59 => (if (V59.fI l2A 1) = (V59.fI 8 7) then (mBN (mX9_liesWithin F Ln l2A ((0 : Int32)) ((0 : Int32)) (((V59.fI 8 7) - (1 : Int32))) V59) fun v64 => (if v64 = 0 then some ((1 : Int32), V59) else (rec 0 Ln l1A l2A ((0 : Int32)) 0 V59))) else some ((1 : Int32), V59)))
def mX6_judgeLikeness (F : Nat) (Ln : Nat → Nat) (l1A : Nat) (l2A : Nat) (V : mV) : Option (Int32 × mV) := mX6_judgeLikeness_s F (mX6_judgeLikeness_go F F) Ln l1A l2A V
set_option maxHeartbeats 4000000 in
set_option maxRecDepth 100000 in
theorem LX6_judgeLikeness_go {α : Nat → Nat} {F : Nat} {v : Int32} {V1 : mV} {Φ : (Int32 → wPS → Prop)} : ∀ k' : Nat, (∀ (l1A : Nat) (l2A : Nat) (l3I : Int32) (S : wPS) (V : mV) (Ln : Nat → Nat) , mRel α S Ln V → mK l1A = 3 → mK l2A = 9 → mX6_judgeLikeness_go F k' 0 Ln l1A l2A l3I 0 V = some (v, V1) → (∀ S1, mRel α S1 Ln V1 → mFr α S S1 → Φ v S1) → rX6_judgeLikeness_go F k' 0 (α 8) (α l1A) (α l2A) l3I 0 S Φ) ∧ (∀ (l1A : Nat) (l2A : Nat) (l3I : Int32) (l4I : Int32) (S : wPS) (V : mV) (Ln : Nat → Nat) , mRel α S Ln V → mK l1A = 3 → mK l2A = 9 → mX6_judgeLikeness_go F k' 1 Ln l1A l2A l3I l4I V = some (v, V1) → (∀ S1, mRel α S1 Ln V1 → mFr α S S1 → Φ v S1) → rX6_judgeLikeness_go F k' 1 (α 8) (α l1A) (α l2A) l3I l4I S Φ) ∧ (∀ (l1A : Nat) (l2A : Nat) (l3I : Int32) (S : wPS) (V : mV) (Ln : Nat → Nat) , mRel α S Ln V → mK l1A = 3 → mK l2A = 9 → mX6_judgeLikeness_go F k' 2 Ln l1A l2A l3I 0 V = some (v, V1) → (∀ S1, mRel α S1 Ln V1 → mFr α S S1 → Φ v S1) → rX6_judgeLikeness_go F k' 2 (α 8) (α l1A) (α l2A) l3I 0 S Φ) ∧ (∀ (l1A : Nat) (l2A : Nat) (l3I : Int32) (l4I : Int32) (S : wPS) (V : mV) (Ln : Nat → Nat) , mRel α S Ln V → mK l1A = 3 → mK l2A = 9 → mX6_judgeLikeness_go F k' 3 Ln l1A l2A l3I l4I V = some (v, V1) → (∀ S1, mRel α S1 Ln V1 → mFr α S S1 → Φ v S1) → rX6_judgeLikeness_go F k' 3 (α 8) (α l1A) (α l2A) l3I l4I S Φ) := by
  intro k'
  induction k' with
  | zero => exact ⟨(fun _ _ _ _ _ _ _ _ _ h _ => by cases h), (fun _ _ _ _ _ _ _ _ _ _ h _ => by cases h), (fun _ _ _ _ _ _ _ _ _ h _ => by cases h), (fun _ _ _ _ _ _ _ _ _ _ h _ => by cases h)⟩
  | succ k' ih =>
    refine ⟨?_, ?_, ?_, ?_⟩
    · intro l1A l2A l3I S V Ln R sl1A sl2A h k
      rw [mX6_judgeLikeness_go, if_pos rfl] at h
      rw [rX6_judgeLikeness_go, if_pos rfl]
      unfold mX6_judgeLikeness_b0 at h
      unfold rX6_judgeLikeness_b0
      refine mIf h (by rw [show gMachines_size S (α 8) = V.fI 8 7 from (mg_I (i := 8) R (by decide) rfl 7)]) (fun c1 h => ?_) (fun c1 h => ?_)
      · exact ih.2.2.1 _ _ _ _ _ _ R sl1A sl2A h (fun S1 R1 F1 => k S1 R1 F1)
      · exact ih.2.1 _ _ _ _ _ _ _ R sl1A sl2A h (fun S1 R1 F1 => k S1 R1 F1)
    · intro l1A l2A l3I l4I S V Ln R sl1A sl2A h k
      rw [mX6_judgeLikeness_go, if_neg (by decide), if_pos rfl] at h
      rw [rX6_judgeLikeness_go, if_neg (by decide), if_pos rfl]
      unfold mX6_judgeLikeness_b1 at h
      unfold rX6_judgeLikeness_b1
      refine mIf h Iff.rfl (fun c2 h => ?_) (fun c2 h => ?_)
      · refine mLet h rfl (fun x3 ex3 h => ?_)
        exact ih.1 _ _ _ _ _ _ R sl1A sl2A h (fun S1 R1 F1 => k S1 R1 F1)
      · obtain ⟨v4, hv4, h⟩ := mBN_some h
        refine LX9_at hv4 R sl2A rfl rfl ?_
        obtain ⟨v9, hv9, h⟩ := mBN_some h
        refine LX9_at hv9 R sl2A rfl rfl ?_
        refine mIf h Iff.rfl (fun c3 h => ?_) (fun c3 h => ?_)
        · refine mGd h (by rw [show S.len (wkAd (gMachines_finals S (α 8))) = 8 from (mg_len (i := 86) R (mA13 rfl) (mg_A (t := 86) R rfl rfl))]) (fun c4 h => ?_)
          refine mGd h (by rw [show S.len (wkAd (gMachines_finals S (α 8))) = 8 from (mg_len (i := 86) R (mA13 rfl) (mg_A (t := 86) R rfl rfl))]) (fun c5 h => ?_)
          refine mIf h (by rw [show S.rI (wkAd (gMachines_finals S (α 8))) (l3I).toNatClampNeg = V.rI 86 (l3I).toNatClampNeg from (mg_rI (i := 86) R (mA13 rfl) (mg_A (t := 86) R rfl rfl) rfl), show S.rI (wkAd (gMachines_finals S (α 8))) (l4I).toNatClampNeg = V.rI 86 (l4I).toNatClampNeg from (mg_rI (i := 86) R (mA13 rfl) (mg_A (t := 86) R rfl rfl) rfl)]) (fun c6 h => ?_) (fun c6 h => ?_)
          · refine mLet h rfl (fun x19 ex19 h => ?_)
            exact ih.2.1 _ _ _ _ _ _ _ R sl1A sl2A h (fun S1 R1 F1 => k S1 R1 F1)
          · obtain ⟨rfl, rfl⟩ := mRW h
            exact k _ R mFr.rf
        · refine mLet h rfl (fun x15 ex15 h => ?_)
          exact ih.2.1 _ _ _ _ _ _ _ R sl1A sl2A h (fun S1 R1 F1 => k S1 R1 F1)
    · intro l1A l2A l3I S V Ln R sl1A sl2A h k
      rw [mX6_judgeLikeness_go, if_neg (by decide), if_neg (by decide), if_pos rfl] at h
      rw [rX6_judgeLikeness_go, if_neg (by decide), if_neg (by decide), if_pos rfl]
      unfold mX6_judgeLikeness_b2 at h
      unfold rX6_judgeLikeness_b2
      refine mIf h (by rw [show gMachines_size S (α 8) = V.fI 8 7 from (mg_I (i := 8) R (by decide) rfl 7)]) (fun c7 h => ?_) (fun c7 h => ?_)
      · obtain ⟨v21, hv21, h⟩ := mBN_some h
        refine LX9_at hv21 R sl2A rfl rfl ?_
        obtain ⟨v26, hv26, h⟩ := mBN_some h
        refine LX3_nodeAsked hv26 R sl1A rfl ?_
        obtain ⟨v31, hv31, h⟩ := mBN_some h
        refine LX9_at hv31 R sl2A rfl rfl ?_
        refine mIf h Iff.rfl (fun c8 h => ?_) (fun c8 h => ?_)
        · obtain ⟨rfl, rfl⟩ := mRW h
          exact k _ R mFr.rf
        · obtain ⟨rfl, rfl⟩ := mRW h
          exact k _ R mFr.rf
      · exact ih.2.2.2 _ _ _ _ _ _ _ R sl1A sl2A h (fun S1 R1 F1 => k S1 R1 F1)
    · intro l1A l2A l3I l4I S V Ln R sl1A sl2A h k
      rw [mX6_judgeLikeness_go, if_neg (by decide), if_neg (by decide), if_neg (by decide), if_pos rfl] at h
      rw [rX6_judgeLikeness_go, if_neg (by decide), if_neg (by decide), if_neg (by decide), if_pos rfl]
      unfold mX6_judgeLikeness_b3 at h
      unfold rX6_judgeLikeness_b3
      refine mIf h Iff.rfl (fun c9 h => ?_) (fun c9 h => ?_)
      · refine mLet h rfl (fun x38 ex38 h => ?_)
        exact ih.2.2.1 _ _ _ _ _ _ R sl1A sl2A h (fun S1 R1 F1 => k S1 R1 F1)
      · obtain ⟨v39, hv39, h⟩ := mBN_some h
        refine LX9_at hv39 R sl2A rfl rfl ?_
        obtain ⟨v44, hv44, h⟩ := mBN_some h
        refine LX9_at hv44 R sl2A rfl rfl ?_
        refine mIf h Iff.rfl (fun c10 h => ?_) (fun c10 h => ?_)
        · obtain ⟨v51, hv51, h⟩ := mBN_some h
          refine LX6_goAlike hv51 R sl2A rfl rfl rfl rfl ?_
          refine mIf h Iff.rfl (fun c11 h => ?_) (fun c11 h => ?_)
          · obtain ⟨rfl, rfl⟩ := mRW h
            exact k _ R mFr.rf
          · refine mLet h rfl (fun x57 ex57 h => ?_)
            exact ih.2.2.2 _ _ _ _ _ _ _ R sl1A sl2A h (fun S1 R1 F1 => k S1 R1 F1)
        · refine mLet h rfl (fun x50 ex50 h => ?_)
          exact ih.2.2.2 _ _ _ _ _ _ _ R sl1A sl2A h (fun S1 R1 F1 => k S1 R1 F1)
set_option maxHeartbeats 4000000 in
set_option maxRecDepth 100000 in
theorem LX6_judgeLikeness {α : Nat → Nat} {F : Nat} {S : wPS} {Ln : Nat → Nat} {V V1 : mV} {v : Int32} {Φ : (Int32 → wPS → Prop)} {l0Ax : Nat} {l1Ax : Nat} {l1A : Nat} {l2Ax : Nat} {l2A : Nat} (h : mX6_judgeLikeness F Ln l1A l2A V = some (v, V1)) (R : mRel α S Ln V) (sl1A : mK l1A = 3) (sl2A : mK l2A = 9) (el0A : l0Ax = α 8) (el1A : l1Ax = α l1A) (el2A : l2Ax = α l2A) (k : (∀ S1, mRel α S1 Ln V1 → mFr α S S1 → Φ v S1)) : rX6_judgeLikeness F l0Ax l1Ax l2Ax S Φ := by
  have el0A := el0A.symm
  subst el0A
  have el1A := el1A.symm
  subst el1A
  have el2A := el2A.symm
  subst el2A
  have ih := LX6_judgeLikeness_go  (α := α) (F := F) (v := v) (Φ := Φ) (V1 := V1) F
  unfold mX6_judgeLikeness mX6_judgeLikeness_s at h
  unfold rX6_judgeLikeness rX6_judgeLikeness_s
  obtain ⟨v58, V59, hv58, h⟩ := mBW_some h
  refine LX6_loadStates hv58 R sl1A rfl rfl (fun S59 R59 F59 => ?_)
  refine mIf h (by rw [show gMachines_size S59 (α 8) = V59.fI 8 7 from (mg_I (i := 8) R59 (by decide) rfl 7), show gRow_count S59 (α l2A) = V59.fI l2A 1 from (mg_I (i := l2A) R59 (mO9 sl2A) rfl 1)]) (fun c12 h => ?_) (fun c12 h => ?_)
  · obtain ⟨v64, hv64, h⟩ := mBN_some h
    refine LX9_liesWithin hv64 R59 sl2A rfl rfl rfl (by rw [show gMachines_size S59 (α 8) = V59.fI 8 7 from (mg_I (i := 8) R59 (by decide) rfl 7)]) ?_
    refine mIf h Iff.rfl (fun c13 h => ?_) (fun c13 h => ?_)
    · obtain ⟨rfl, rfl⟩ := mRW h
      exact k _ R59 F59
    · exact ih.1 _ _ _ _ _ _ R59 sl1A sl2A h (fun S1 R1 F1 => k S1 R1 (F59.tr F1))
  · obtain ⟨rfl, rfl⟩ := mRW h
    exact k _ R59 F59
end
