/-! LIFTED BY PROGRAM (lift.py): L_isOne, L_areOne. -/
section
def mL_isOne_b0 (G : wkG) (F : Nat) (rec : Nat → (Nat → Nat) → Int32 → Int32 → Int32 → Int32 → Int64 → Int32 → mV → Option (Int32 × (Nat → Nat) × mV)) (Ln : Nat → Nat) (l1I : Int32) (l3I : Int32) (l6I : Int32) (V : mV) : Option (Int32 × (Nat → Nat) × mV) :=
  (mBA (mL_borrow G F Ln (l1I) V) fun v1 L2 V2 => (if 0 ≤ (lg_cmp v1 (0 : Int64)) then (mBA (mL_length G F L2 (l1I) V2) fun v7 L8 V8 => (if (lg_cmp v1 v7) = 0 then (mBA (mL_check G F L8 (l1I) (l6I) V8) fun v13 L14 V14 => (if (lg_cmp v13 (0 : Int64)) = 0 then (if l6I = 0 then (mBA (mL_check G F L14 (l1I) ((1 : Int32)) V14) fun v26 L27 V27 => (if 0 ≤ (lg_cmp v26 (1 : Int64)) then (rec 1 L27 0 (l1I) (l3I) (l6I) (v1) ((0 : Int32)) V27) else some ((0 : Int32), L27, V27))) else (mBA (mL_check G F L14 (l1I) ((0 : Int32)) V14) fun v20 L21 V21 => (if 0 ≤ (lg_cmp v20 (1 : Int64)) then (rec 1 L21 0 (l1I) (l3I) (l6I) (v1) ((0 : Int32)) V21) else some ((0 : Int32), L21, V21)))) else some ((0 : Int32), L14, V14))) else some ((0 : Int32), L8, V8))) else (mBA (mL_length G F L2 (l1I) V2) fun v32 L33 V33 => (if (lg_cmp v32 (64 : Int64)) ≤ 0 then some ((0 : Int32), L33, V33) else some ((1 : Int32), L33, V33)))))
def mL_isOne_b1 (G : wkG) (F : Nat) (rec : Nat → (Nat → Nat) → Int32 → Int32 → Int32 → Int32 → Int64 → Int32 → mV → Option (Int32 × (Nat → Nat) × mV)) (Ln : Nat → Nat) (l1I : Int32) (l3I : Int32) (l6I : Int32) (l7J : Int64) (l9I : Int32) (V : mV) : Option (Int32 × (Nat → Nat) × mV) :=
  (if (6 : Int32) ≤ l9I then (mBW (mL_wipe G F V) fun v39 V40 => (rec 3 Ln 0 (l1I) (l3I) (l6I) 0 ((0 : Int32)) V40)) else (mBN (mL_drawn G F ((l3I + ((2 : Int32) * l9I))) ((12 : Int32))) fun v44 => (mLt (v44 - (3 : Int32)) fun x49 => (if (lg_cmp l7J (0 : Int64)) ≤ 0 then (rec 2 Ln (x49) (l1I) (l3I) (l6I) (l7J) (l9I) V) else (if (2 : Int32) ≤ (l9I - l9I / (3 : Int32) * (3 : Int32)) then (rec 2 Ln (x49) (l1I) (l3I) (l6I) (l7J) (l9I) V) else (mBN (mL_drawn G F (((l3I + ((2 : Int32) * l9I)) + (1 : Int32))) ((Int64.toInt32 l7J))) fun v52 => (mBA (mL_alter G F Ln (v52) (x49) V) fun v57 L58 V58 => (if l6I = 0 then (mBA (mL_check G F L58 (l1I) ((1 : Int32)) V58) fun v70 L71 V71 => (if 0 ≤ (lg_cmp v70 (1 : Int64)) then (mLt (l9I + (1 : Int32)) fun x76 => (rec 1 L71 0 (l1I) (l3I) (l6I) (l7J) (x76) V71)) else some ((0 : Int32), L71, V71))) else (mBA (mL_check G F L58 (l1I) ((0 : Int32)) V58) fun v63 L64 V64 => (if 0 ≤ (lg_cmp v63 (1 : Int64)) then (mLt (l9I + (1 : Int32)) fun x69 => (rec 1 L64 0 (l1I) (l3I) (l6I) (l7J) (x69) V64)) else some ((0 : Int32), L64, V64)))))))))))
def mL_isOne_b2 (G : wkG) (F : Nat) (rec : Nat → (Nat → Nat) → Int32 → Int32 → Int32 → Int32 → Int64 → Int32 → mV → Option (Int32 × (Nat → Nat) × mV)) (Ln : Nat → Nat) (l1I : Int32) (l3I : Int32) (l6I : Int32) (l7J : Int64) (l9I : Int32) (l10I : Int32) (V : mV) : Option (Int32 × (Nat → Nat) × mV) :=
  (mBA (mL_type G F Ln (l10I) V) fun v77 L78 V78 => (if l6I = 0 then (mBA (mL_check G F L78 (l1I) ((1 : Int32)) V78) fun v90 L91 V91 => (if 0 ≤ (lg_cmp v90 (1 : Int64)) then (mLt (l9I + (1 : Int32)) fun x96 => (rec 1 L91 0 (l1I) (l3I) (l6I) (l7J) (x96) V91)) else some ((0 : Int32), L91, V91))) else (mBA (mL_check G F L78 (l1I) ((0 : Int32)) V78) fun v83 L84 V84 => (if 0 ≤ (lg_cmp v83 (1 : Int64)) then (mLt (l9I + (1 : Int32)) fun x89 => (rec 1 L84 0 (l1I) (l3I) (l6I) (l7J) (x89) V84)) else some ((0 : Int32), L84, V84)))))
def mL_isOne_b3 (G : wkG) (F : Nat) (rec : Nat → (Nat → Nat) → Int32 → Int32 → Int32 → Int32 → Int64 → Int32 → mV → Option (Int32 × (Nat → Nat) × mV)) (Ln : Nat → Nat) (l1I : Int32) (l3I : Int32) (l6I : Int32) (l9I : Int32) (V : mV) : Option (Int32 × (Nat → Nat) × mV) :=
  (if (4 : Int32) ≤ l9I then some ((1 : Int32), Ln, V) else (if l6I = 0 then (mBA (mL_check G F Ln (l1I) ((1 : Int32)) V) fun v116 L117 V117 => (if 0 ≤ (lg_cmp v116 (1 : Int64)) then (mBN (mL_drawn G F (((l3I + (20 : Int32)) + l9I)) ((10 : Int32))) fun v122 => (mBA (mL_type G F L117 ((v122 - (1 : Int32))) V117) fun v127 L128 V128 => (mLt (l9I + (1 : Int32)) fun x132 => (rec 3 L128 0 (l1I) (l3I) (l6I) 0 (x132) V128)))) else some ((0 : Int32), L117, V117))) else (mBA (mL_check G F Ln (l1I) ((0 : Int32)) V) fun v99 L100 V100 => (if 0 ≤ (lg_cmp v99 (1 : Int64)) then (mBN (mL_drawn G F (((l3I + (20 : Int32)) + l9I)) ((10 : Int32))) fun v105 => (mBA (mL_type G F L100 ((v105 - (1 : Int32))) V100) fun v110 L111 V111 => (mLt (l9I + (1 : Int32)) fun x115 => (rec 3 L111 0 (l1I) (l3I) (l6I) 0 (x115) V111)))) else some ((0 : Int32), L100, V100)))))
def mL_isOne_go (G : wkG) (F : Nat) : Nat → Nat → (Nat → Nat) → Int32 → Int32 → Int32 → Int32 → Int64 → Int32 → mV → Option (Int32 × (Nat → Nat) × mV)
  | 0, _, _, _, _, _, _, _, _, _ => none
  | k' + 1, lab, Ln, l10I, l1I, l3I, l6I, l7J, l9I, V => if lab = 0 then mL_isOne_b0 G F (mL_isOne_go G F k') Ln l1I l3I l6I V else if lab = 1 then mL_isOne_b1 G F (mL_isOne_go G F k') Ln l1I l3I l6I l7J l9I V else if lab = 2 then mL_isOne_b2 G F (mL_isOne_go G F k') Ln l1I l3I l6I l7J l9I l10I V else if lab = 3 then mL_isOne_b3 G F (mL_isOne_go G F k') Ln l1I l3I l6I l9I V else none
def mL_isOne_s (G : wkG) (F : Nat) (rec : Nat → (Nat → Nat) → Int32 → Int32 → Int32 → Int32 → Int64 → Int32 → mV → Option (Int32 × (Nat → Nat) × mV)) (Ln : Nat → Nat) (l1I : Int32) (l3I : Int32) (V : mV) : Option (Int32 × (Nat → Nat) × mV) :=
  (mBA (mL_answer G F Ln (l1I) V) fun v133 L134 V134 => (if (lg_cmp v133 (121 : Int64)) = 0 then (rec 0 L134 0 (l1I) (l3I) ((1 : Int32)) 0 0 V134) else (if (lg_cmp v133 (110 : Int64)) = 0 then (rec 0 L134 0 (l1I) (l3I) ((0 : Int32)) 0 0 V134) else some ((0 : Int32), L134, V134))))
def mL_isOne (G : wkG) (F : Nat) (Ln : Nat → Nat) (l1I : Int32) (l3I : Int32) (V : mV) : Option (Int32 × (Nat → Nat) × mV) := mL_isOne_s G F (mL_isOne_go G F F) Ln l1I l3I V
set_option maxHeartbeats 4000000 in
set_option maxRecDepth 100000 in
theorem ML_isOne_go {G : wkG} {F : Nat} {v : Int32} {Ln1 : Nat → Nat} {V1 : mV} : ∀ k' : Nat, (∀ (l1I : Int32) (l3I : Int32) (l6I : Int32) (Ln : Nat → Nat) (V : mV), mL_isOne_go G F k' 0 Ln 0 l1I l3I l6I 0 0 V = some (v, Ln1, V1) → mP Ln1 ≤ mP Ln) ∧ (∀ (l1I : Int32) (l3I : Int32) (l6I : Int32) (l7J : Int64) (l9I : Int32) (Ln : Nat → Nat) (V : mV), mL_isOne_go G F k' 1 Ln 0 l1I l3I l6I l7J l9I V = some (v, Ln1, V1) → mP Ln1 ≤ mP Ln) ∧ (∀ (l1I : Int32) (l3I : Int32) (l6I : Int32) (l7J : Int64) (l9I : Int32) (l10I : Int32) (Ln : Nat → Nat) (V : mV), mL_isOne_go G F k' 2 Ln l10I l1I l3I l6I l7J l9I V = some (v, Ln1, V1) → mP Ln1 ≤ mP Ln) ∧ (∀ (l1I : Int32) (l3I : Int32) (l6I : Int32) (l9I : Int32) (Ln : Nat → Nat) (V : mV), mL_isOne_go G F k' 3 Ln 0 l1I l3I l6I 0 l9I V = some (v, Ln1, V1) → mP Ln1 ≤ mP Ln) := by
  intro k'
  induction k' with
  | zero => exact ⟨(fun _ _ _ _ _ h => by cases h), (fun _ _ _ _ _ _ _ h => by cases h), (fun _ _ _ _ _ _ _ _ h => by cases h), (fun _ _ _ _ _ _ h => by cases h)⟩
  | succ k' ihM =>
    refine ⟨?_, ?_, ?_, ?_⟩
    · intro l1I l3I l6I Ln V h
      rw [mL_isOne_go, if_pos rfl] at h
      unfold mL_isOne_b0 at h
      obtain ⟨_, _, _, z1, h⟩ := mBA_some h
      refine Nat.le_trans ?_ (ML_borrow z1)
      rcases mIf_some h with ⟨_, h⟩ | ⟨_, h⟩
      · obtain ⟨_, _, _, z2, h⟩ := mBA_some h
        refine Nat.le_trans ?_ (ML_length z2)
        rcases mIf_some h with ⟨_, h⟩ | ⟨_, h⟩
        · obtain ⟨_, _, _, z3, h⟩ := mBA_some h
          refine Nat.le_trans ?_ (ML_check z3)
          rcases mIf_some h with ⟨_, h⟩ | ⟨_, h⟩
          · rcases mIf_some h with ⟨_, h⟩ | ⟨_, h⟩
            · obtain ⟨_, _, _, z4, h⟩ := mBA_some h
              refine Nat.le_trans ?_ (ML_check z4)
              rcases mIf_some h with ⟨_, h⟩ | ⟨_, h⟩
              · exact ihM.2.1 _ _ _ _ _ _ _ h
              · cases h
                exact Nat.le_refl _
            · obtain ⟨_, _, _, z5, h⟩ := mBA_some h
              refine Nat.le_trans ?_ (ML_check z5)
              rcases mIf_some h with ⟨_, h⟩ | ⟨_, h⟩
              · exact ihM.2.1 _ _ _ _ _ _ _ h
              · cases h
                exact Nat.le_refl _
          · cases h
            exact Nat.le_refl _
        · cases h
          exact Nat.le_refl _
      · obtain ⟨_, _, _, z6, h⟩ := mBA_some h
        refine Nat.le_trans ?_ (ML_length z6)
        rcases mIf_some h with ⟨_, h⟩ | ⟨_, h⟩
        · cases h
          exact Nat.le_refl _
        · cases h
          exact Nat.le_refl _
    · intro l1I l3I l6I l7J l9I Ln V h
      rw [mL_isOne_go, if_neg (by decide), if_pos rfl] at h
      unfold mL_isOne_b1 at h
      rcases mIf_some h with ⟨_, h⟩ | ⟨_, h⟩
      · obtain ⟨_, _, _, h⟩ := mBW_some h
        exact ihM.2.2.2 _ _ _ _ _ _ h
      · obtain ⟨_, _, h⟩ := mBN_some h
        obtain ⟨_, _, h⟩ := mLt_some h
        rcases mIf_some h with ⟨_, h⟩ | ⟨_, h⟩
        · exact ihM.2.2.1 _ _ _ _ _ _ _ _ h
        · rcases mIf_some h with ⟨_, h⟩ | ⟨_, h⟩
          · exact ihM.2.2.1 _ _ _ _ _ _ _ _ h
          · obtain ⟨_, _, h⟩ := mBN_some h
            obtain ⟨_, _, _, z7, h⟩ := mBA_some h
            refine Nat.le_trans ?_ (ML_alter z7)
            rcases mIf_some h with ⟨_, h⟩ | ⟨_, h⟩
            · obtain ⟨_, _, _, z8, h⟩ := mBA_some h
              refine Nat.le_trans ?_ (ML_check z8)
              rcases mIf_some h with ⟨_, h⟩ | ⟨_, h⟩
              · obtain ⟨_, _, h⟩ := mLt_some h
                exact ihM.2.1 _ _ _ _ _ _ _ h
              · cases h
                exact Nat.le_refl _
            · obtain ⟨_, _, _, z9, h⟩ := mBA_some h
              refine Nat.le_trans ?_ (ML_check z9)
              rcases mIf_some h with ⟨_, h⟩ | ⟨_, h⟩
              · obtain ⟨_, _, h⟩ := mLt_some h
                exact ihM.2.1 _ _ _ _ _ _ _ h
              · cases h
                exact Nat.le_refl _
    · intro l1I l3I l6I l7J l9I l10I Ln V h
      rw [mL_isOne_go, if_neg (by decide), if_neg (by decide), if_pos rfl] at h
      unfold mL_isOne_b2 at h
      obtain ⟨_, _, _, z10, h⟩ := mBA_some h
      refine Nat.le_trans ?_ (ML_type z10)
      rcases mIf_some h with ⟨_, h⟩ | ⟨_, h⟩
      · obtain ⟨_, _, _, z11, h⟩ := mBA_some h
        refine Nat.le_trans ?_ (ML_check z11)
        rcases mIf_some h with ⟨_, h⟩ | ⟨_, h⟩
        · obtain ⟨_, _, h⟩ := mLt_some h
          exact ihM.2.1 _ _ _ _ _ _ _ h
        · cases h
          exact Nat.le_refl _
      · obtain ⟨_, _, _, z12, h⟩ := mBA_some h
        refine Nat.le_trans ?_ (ML_check z12)
        rcases mIf_some h with ⟨_, h⟩ | ⟨_, h⟩
        · obtain ⟨_, _, h⟩ := mLt_some h
          exact ihM.2.1 _ _ _ _ _ _ _ h
        · cases h
          exact Nat.le_refl _
    · intro l1I l3I l6I l9I Ln V h
      rw [mL_isOne_go, if_neg (by decide), if_neg (by decide), if_neg (by decide), if_pos rfl] at h
      unfold mL_isOne_b3 at h
      rcases mIf_some h with ⟨_, h⟩ | ⟨_, h⟩
      · cases h
        exact Nat.le_refl _
      · rcases mIf_some h with ⟨_, h⟩ | ⟨_, h⟩
        · obtain ⟨_, _, _, z13, h⟩ := mBA_some h
          refine Nat.le_trans ?_ (ML_check z13)
          rcases mIf_some h with ⟨_, h⟩ | ⟨_, h⟩
          · obtain ⟨_, _, h⟩ := mBN_some h
            obtain ⟨_, _, _, z14, h⟩ := mBA_some h
            refine Nat.le_trans ?_ (ML_type z14)
            obtain ⟨_, _, h⟩ := mLt_some h
            exact ihM.2.2.2 _ _ _ _ _ _ h
          · cases h
            exact Nat.le_refl _
        · obtain ⟨_, _, _, z15, h⟩ := mBA_some h
          refine Nat.le_trans ?_ (ML_check z15)
          rcases mIf_some h with ⟨_, h⟩ | ⟨_, h⟩
          · obtain ⟨_, _, h⟩ := mBN_some h
            obtain ⟨_, _, _, z16, h⟩ := mBA_some h
            refine Nat.le_trans ?_ (ML_type z16)
            obtain ⟨_, _, h⟩ := mLt_some h
            exact ihM.2.2.2 _ _ _ _ _ _ h
          · cases h
            exact Nat.le_refl _
set_option maxHeartbeats 4000000 in
set_option maxRecDepth 100000 in
theorem ML_isOne {G : wkG} {F : Nat} {Ln Ln1 : Nat → Nat} {V V1 : mV} {v : Int32} {l1I : Int32} {l3I : Int32} (h : mL_isOne G F Ln l1I l3I V = some (v, Ln1, V1)) : mP Ln1 ≤ mP Ln := by
  have ihM := ML_isOne_go (G := G) (F := F) (v := v) (Ln1 := Ln1) (V1 := V1) F
  unfold mL_isOne mL_isOne_s at h
  obtain ⟨_, _, _, z17, h⟩ := mBA_some h
  refine Nat.le_trans ?_ (ML_answer z17)
  rcases mIf_some h with ⟨_, h⟩ | ⟨_, h⟩
  · exact ihM.1 _ _ _ _ _ h
  · rcases mIf_some h with ⟨_, h⟩ | ⟨_, h⟩
    · exact ihM.1 _ _ _ _ _ h
    · cases h
      exact Nat.le_refl _
set_option maxHeartbeats 4000000 in
set_option maxRecDepth 100000 in
theorem LL_isOne_go {G : wkG} {α : Nat → Nat} {k0 n0 : Nat} {F : Nat} {v : Int32} {Ln1 : Nat → Nat} {V1 : mV} {Φ : (Int32 → wPS → Prop)} : ∀ k' : Nat, (∀ (l1I : Int32) (l3I : Int32) (l6I : Int32) (S : wPS) (V : mV) (Ln : Nat → Nat) (c s : Nat), mRel α S Ln V → mL_isOne_go G F k' 0 Ln 0 l1I l3I l6I 0 0 V = some (v, Ln1, V1) → c + (mP Ln - mP Ln1) / 16 ≤ k0 → s + (mP Ln - mP Ln1) ≤ n0 → (∀ S1, mRel α S1 Ln1 V1 → mFr α S S1 → Φ v S1) → rL_isOne_go G F k0 n0 k' 0 c s (α 0) 0 l1I l3I l6I 0 0 S Φ) ∧ (∀ (l1I : Int32) (l3I : Int32) (l6I : Int32) (l7J : Int64) (l9I : Int32) (S : wPS) (V : mV) (Ln : Nat → Nat) (c s : Nat), mRel α S Ln V → mL_isOne_go G F k' 1 Ln 0 l1I l3I l6I l7J l9I V = some (v, Ln1, V1) → c + (mP Ln - mP Ln1) / 16 ≤ k0 → s + (mP Ln - mP Ln1) ≤ n0 → (∀ S1, mRel α S1 Ln1 V1 → mFr α S S1 → Φ v S1) → rL_isOne_go G F k0 n0 k' 1 c s (α 0) 0 l1I l3I l6I l7J l9I S Φ) ∧ (∀ (l1I : Int32) (l3I : Int32) (l6I : Int32) (l7J : Int64) (l9I : Int32) (l10I : Int32) (S : wPS) (V : mV) (Ln : Nat → Nat) (c s : Nat), mRel α S Ln V → mL_isOne_go G F k' 2 Ln l10I l1I l3I l6I l7J l9I V = some (v, Ln1, V1) → c + (mP Ln - mP Ln1) / 16 ≤ k0 → s + (mP Ln - mP Ln1) ≤ n0 → (∀ S1, mRel α S1 Ln1 V1 → mFr α S S1 → Φ v S1) → rL_isOne_go G F k0 n0 k' 2 c s (α 0) l10I l1I l3I l6I l7J l9I S Φ) ∧ (∀ (l1I : Int32) (l3I : Int32) (l6I : Int32) (l9I : Int32) (S : wPS) (V : mV) (Ln : Nat → Nat) (c s : Nat), mRel α S Ln V → mL_isOne_go G F k' 3 Ln 0 l1I l3I l6I 0 l9I V = some (v, Ln1, V1) → c + (mP Ln - mP Ln1) / 16 ≤ k0 → s + (mP Ln - mP Ln1) ≤ n0 → (∀ S1, mRel α S1 Ln1 V1 → mFr α S S1 → Φ v S1) → rL_isOne_go G F k0 n0 k' 3 c s (α 0) 0 l1I l3I l6I 0 l9I S Φ) := by
  intro k'
  induction k' with
  | zero => exact ⟨(fun _ _ _ _ _ _ _ _ _ h _ _ _ => by cases h), (fun _ _ _ _ _ _ _ _ _ _ _ h _ _ _ => by cases h), (fun _ _ _ _ _ _ _ _ _ _ _ _ h _ _ _ => by cases h), (fun _ _ _ _ _ _ _ _ _ _ h _ _ _ => by cases h)⟩
  | succ k' ih =>
    have ihM := ML_isOne_go (G := G) (F := F) (v := v) (Ln1 := Ln1) (V1 := V1) k'
    refine ⟨?_, ?_, ?_, ?_⟩
    · intro l1I l3I l6I S V Ln c s R h hk hn k
      rw [mL_isOne_go, if_pos rfl] at h
      rw [rL_isOne_go, if_pos rfl]
      unfold mL_isOne_b0 at h
      unfold rL_isOne_b0
      obtain ⟨v1, L2, V2, hv1, h⟩ := mBA_some h
      have mv1 : mP L2 ≤ mP Ln := ML_borrow hv1
      have qv1 : mP Ln1 ≤ mP L2 := by
        rcases mIf_some h with ⟨_, h⟩ | ⟨_, h⟩
        · obtain ⟨_, _, _, z18, h⟩ := mBA_some h
          refine Nat.le_trans ?_ (ML_length z18)
          rcases mIf_some h with ⟨_, h⟩ | ⟨_, h⟩
          · obtain ⟨_, _, _, z19, h⟩ := mBA_some h
            refine Nat.le_trans ?_ (ML_check z19)
            rcases mIf_some h with ⟨_, h⟩ | ⟨_, h⟩
            · rcases mIf_some h with ⟨_, h⟩ | ⟨_, h⟩
              · obtain ⟨_, _, _, z20, h⟩ := mBA_some h
                refine Nat.le_trans ?_ (ML_check z20)
                rcases mIf_some h with ⟨_, h⟩ | ⟨_, h⟩
                · exact ihM.2.1 _ _ _ _ _ _ _ h
                · cases h
                  exact Nat.le_refl _
              · obtain ⟨_, _, _, z21, h⟩ := mBA_some h
                refine Nat.le_trans ?_ (ML_check z21)
                rcases mIf_some h with ⟨_, h⟩ | ⟨_, h⟩
                · exact ihM.2.1 _ _ _ _ _ _ _ h
                · cases h
                  exact Nat.le_refl _
            · cases h
              exact Nat.le_refl _
          · cases h
            exact Nat.le_refl _
        · obtain ⟨_, _, _, z22, h⟩ := mBA_some h
          refine Nat.le_trans ?_ (ML_length z22)
          rcases mIf_some h with ⟨_, h⟩ | ⟨_, h⟩
          · cases h
            exact Nat.le_refl _
          · cases h
            exact Nat.le_refl _
      refine ⟨(mP Ln - mP L2) / 16, mP Ln - mP L2, by omega, by omega, ?_⟩
      refine LL_borrow hv1 R rfl rfl (by omega) (by omega) (fun S2 R2 F2 => ?_)
      refine mIf h Iff.rfl (fun c23 h => ?_) (fun c23 h => ?_)
      · obtain ⟨v7, L8, V8, hv7, h⟩ := mBA_some h
        have mv7 : mP L8 ≤ mP L2 := ML_length hv7
        have qv7 : mP Ln1 ≤ mP L8 := by
          rcases mIf_some h with ⟨_, h⟩ | ⟨_, h⟩
          · obtain ⟨_, _, _, z24, h⟩ := mBA_some h
            refine Nat.le_trans ?_ (ML_check z24)
            rcases mIf_some h with ⟨_, h⟩ | ⟨_, h⟩
            · rcases mIf_some h with ⟨_, h⟩ | ⟨_, h⟩
              · obtain ⟨_, _, _, z25, h⟩ := mBA_some h
                refine Nat.le_trans ?_ (ML_check z25)
                rcases mIf_some h with ⟨_, h⟩ | ⟨_, h⟩
                · exact ihM.2.1 _ _ _ _ _ _ _ h
                · cases h
                  exact Nat.le_refl _
              · obtain ⟨_, _, _, z26, h⟩ := mBA_some h
                refine Nat.le_trans ?_ (ML_check z26)
                rcases mIf_some h with ⟨_, h⟩ | ⟨_, h⟩
                · exact ihM.2.1 _ _ _ _ _ _ _ h
                · cases h
                  exact Nat.le_refl _
            · cases h
              exact Nat.le_refl _
          · cases h
            exact Nat.le_refl _
        refine ⟨(mP L2 - mP L8) / 16, mP L2 - mP L8, by omega, by omega, ?_⟩
        refine LL_length hv7 R2 rfl rfl (by omega) (by omega) (fun S8 R8 F8 => ?_)
        refine mIf h Iff.rfl (fun c27 h => ?_) (fun c27 h => ?_)
        · obtain ⟨v13, L14, V14, hv13, h⟩ := mBA_some h
          have mv13 : mP L14 ≤ mP L8 := ML_check hv13
          have qv13 : mP Ln1 ≤ mP L14 := by
            rcases mIf_some h with ⟨_, h⟩ | ⟨_, h⟩
            · rcases mIf_some h with ⟨_, h⟩ | ⟨_, h⟩
              · obtain ⟨_, _, _, z28, h⟩ := mBA_some h
                refine Nat.le_trans ?_ (ML_check z28)
                rcases mIf_some h with ⟨_, h⟩ | ⟨_, h⟩
                · exact ihM.2.1 _ _ _ _ _ _ _ h
                · cases h
                  exact Nat.le_refl _
              · obtain ⟨_, _, _, z29, h⟩ := mBA_some h
                refine Nat.le_trans ?_ (ML_check z29)
                rcases mIf_some h with ⟨_, h⟩ | ⟨_, h⟩
                · exact ihM.2.1 _ _ _ _ _ _ _ h
                · cases h
                  exact Nat.le_refl _
            · cases h
              exact Nat.le_refl _
          refine ⟨(mP L8 - mP L14) / 16, mP L8 - mP L14, by omega, by omega, ?_⟩
          refine LL_check hv13 R8 rfl rfl rfl (by omega) (by omega) (fun S14 R14 F14 => ?_)
          refine mIf h Iff.rfl (fun c30 h => ?_) (fun c30 h => ?_)
          · refine mIf h Iff.rfl (fun c31 h => ?_) (fun c31 h => ?_)
            · obtain ⟨v26, L27, V27, hv26, h⟩ := mBA_some h
              have mv26 : mP L27 ≤ mP L14 := ML_check hv26
              have qv26 : mP Ln1 ≤ mP L27 := by
                rcases mIf_some h with ⟨_, h⟩ | ⟨_, h⟩
                · exact ihM.2.1 _ _ _ _ _ _ _ h
                · cases h
                  exact Nat.le_refl _
              refine ⟨(mP L14 - mP L27) / 16, mP L14 - mP L27, by omega, by omega, ?_⟩
              refine LL_check hv26 R14 rfl rfl rfl (by omega) (by omega) (fun S27 R27 F27 => ?_)
              refine mIf h Iff.rfl (fun c32 h => ?_) (fun c32 h => ?_)
              · exact ih.2.1 _ _ _ _ _ _ _ _ _ _ R27 h (by omega) (by omega) (fun S1 R1 F1 => k S1 R1 (F2.tr (F8.tr (F14.tr (F27.tr F1)))))
              · obtain ⟨rfl, rfl, rfl⟩ := mRA3 h
                exact k _ R27 (F2.tr (F8.tr (F14.tr F27)))
            · obtain ⟨v20, L21, V21, hv20, h⟩ := mBA_some h
              have mv20 : mP L21 ≤ mP L14 := ML_check hv20
              have qv20 : mP Ln1 ≤ mP L21 := by
                rcases mIf_some h with ⟨_, h⟩ | ⟨_, h⟩
                · exact ihM.2.1 _ _ _ _ _ _ _ h
                · cases h
                  exact Nat.le_refl _
              refine ⟨(mP L14 - mP L21) / 16, mP L14 - mP L21, by omega, by omega, ?_⟩
              refine LL_check hv20 R14 rfl rfl rfl (by omega) (by omega) (fun S21 R21 F21 => ?_)
              refine mIf h Iff.rfl (fun c33 h => ?_) (fun c33 h => ?_)
              · exact ih.2.1 _ _ _ _ _ _ _ _ _ _ R21 h (by omega) (by omega) (fun S1 R1 F1 => k S1 R1 (F2.tr (F8.tr (F14.tr (F21.tr F1)))))
              · obtain ⟨rfl, rfl, rfl⟩ := mRA3 h
                exact k _ R21 (F2.tr (F8.tr (F14.tr F21)))
          · obtain ⟨rfl, rfl, rfl⟩ := mRA3 h
            exact k _ R14 (F2.tr (F8.tr F14))
        · obtain ⟨rfl, rfl, rfl⟩ := mRA3 h
          exact k _ R8 (F2.tr F8)
      · obtain ⟨v32, L33, V33, hv32, h⟩ := mBA_some h
        have mv32 : mP L33 ≤ mP L2 := ML_length hv32
        have qv32 : mP Ln1 ≤ mP L33 := by
          rcases mIf_some h with ⟨_, h⟩ | ⟨_, h⟩
          · cases h
            exact Nat.le_refl _
          · cases h
            exact Nat.le_refl _
        refine ⟨(mP L2 - mP L33) / 16, mP L2 - mP L33, by omega, by omega, ?_⟩
        refine LL_length hv32 R2 rfl rfl (by omega) (by omega) (fun S33 R33 F33 => ?_)
        refine mIf h Iff.rfl (fun c34 h => ?_) (fun c34 h => ?_)
        · obtain ⟨rfl, rfl, rfl⟩ := mRA3 h
          exact k _ R33 (F2.tr F33)
        · obtain ⟨rfl, rfl, rfl⟩ := mRA3 h
          exact k _ R33 (F2.tr F33)
    · intro l1I l3I l6I l7J l9I S V Ln c s R h hk hn k
      rw [mL_isOne_go, if_neg (by decide), if_pos rfl] at h
      rw [rL_isOne_go, if_neg (by decide), if_pos rfl]
      unfold mL_isOne_b1 at h
      unfold rL_isOne_b1
      refine mIf h Iff.rfl (fun c35 h => ?_) (fun c35 h => ?_)
      · obtain ⟨v39, V40, hv39, h⟩ := mBW_some h
        refine LL_wipe hv39 R rfl (fun S40 R40 F40 => ?_)
        exact ih.2.2.2 _ _ _ _ _ _ _ _ _ R40 h (by omega) (by omega) (fun S1 R1 F1 => k S1 R1 (F40.tr F1))
      · obtain ⟨v44, hv44, h⟩ := mBN_some h
        refine LL_drawn hv44 rfl rfl ?_
        refine mLet h rfl (fun x49 ex49 h => ?_)
        refine mIf h Iff.rfl (fun c36 h => ?_) (fun c36 h => ?_)
        · exact ih.2.2.1 _ _ _ _ _ _ _ _ _ _ _ R h (by omega) (by omega) (fun S1 R1 F1 => k S1 R1 F1)
        · refine mIf h Iff.rfl (fun c37 h => ?_) (fun c37 h => ?_)
          · exact ih.2.2.1 _ _ _ _ _ _ _ _ _ _ _ R h (by omega) (by omega) (fun S1 R1 F1 => k S1 R1 F1)
          · obtain ⟨v52, hv52, h⟩ := mBN_some h
            refine LL_drawn hv52 rfl rfl ?_
            obtain ⟨v57, L58, V58, hv57, h⟩ := mBA_some h
            have mv57 : mP L58 ≤ mP Ln := ML_alter hv57
            have qv57 : mP Ln1 ≤ mP L58 := by
              rcases mIf_some h with ⟨_, h⟩ | ⟨_, h⟩
              · obtain ⟨_, _, _, z38, h⟩ := mBA_some h
                refine Nat.le_trans ?_ (ML_check z38)
                rcases mIf_some h with ⟨_, h⟩ | ⟨_, h⟩
                · obtain ⟨_, _, h⟩ := mLt_some h
                  exact ihM.2.1 _ _ _ _ _ _ _ h
                · cases h
                  exact Nat.le_refl _
              · obtain ⟨_, _, _, z39, h⟩ := mBA_some h
                refine Nat.le_trans ?_ (ML_check z39)
                rcases mIf_some h with ⟨_, h⟩ | ⟨_, h⟩
                · obtain ⟨_, _, h⟩ := mLt_some h
                  exact ihM.2.1 _ _ _ _ _ _ _ h
                · cases h
                  exact Nat.le_refl _
            refine ⟨(mP Ln - mP L58) / 16, mP Ln - mP L58, by omega, by omega, ?_⟩
            refine LL_alter hv57 R rfl rfl rfl (by omega) (by omega) (fun S58 R58 F58 => ?_)
            refine mIf h Iff.rfl (fun c40 h => ?_) (fun c40 h => ?_)
            · obtain ⟨v70, L71, V71, hv70, h⟩ := mBA_some h
              have mv70 : mP L71 ≤ mP L58 := ML_check hv70
              have qv70 : mP Ln1 ≤ mP L71 := by
                rcases mIf_some h with ⟨_, h⟩ | ⟨_, h⟩
                · obtain ⟨_, _, h⟩ := mLt_some h
                  exact ihM.2.1 _ _ _ _ _ _ _ h
                · cases h
                  exact Nat.le_refl _
              refine ⟨(mP L58 - mP L71) / 16, mP L58 - mP L71, by omega, by omega, ?_⟩
              refine LL_check hv70 R58 rfl rfl rfl (by omega) (by omega) (fun S71 R71 F71 => ?_)
              refine mIf h Iff.rfl (fun c41 h => ?_) (fun c41 h => ?_)
              · refine mLet h rfl (fun x76 ex76 h => ?_)
                exact ih.2.1 _ _ _ _ _ _ _ _ _ _ R71 h (by omega) (by omega) (fun S1 R1 F1 => k S1 R1 (F58.tr (F71.tr F1)))
              · obtain ⟨rfl, rfl, rfl⟩ := mRA3 h
                exact k _ R71 (F58.tr F71)
            · obtain ⟨v63, L64, V64, hv63, h⟩ := mBA_some h
              have mv63 : mP L64 ≤ mP L58 := ML_check hv63
              have qv63 : mP Ln1 ≤ mP L64 := by
                rcases mIf_some h with ⟨_, h⟩ | ⟨_, h⟩
                · obtain ⟨_, _, h⟩ := mLt_some h
                  exact ihM.2.1 _ _ _ _ _ _ _ h
                · cases h
                  exact Nat.le_refl _
              refine ⟨(mP L58 - mP L64) / 16, mP L58 - mP L64, by omega, by omega, ?_⟩
              refine LL_check hv63 R58 rfl rfl rfl (by omega) (by omega) (fun S64 R64 F64 => ?_)
              refine mIf h Iff.rfl (fun c42 h => ?_) (fun c42 h => ?_)
              · refine mLet h rfl (fun x69 ex69 h => ?_)
                exact ih.2.1 _ _ _ _ _ _ _ _ _ _ R64 h (by omega) (by omega) (fun S1 R1 F1 => k S1 R1 (F58.tr (F64.tr F1)))
              · obtain ⟨rfl, rfl, rfl⟩ := mRA3 h
                exact k _ R64 (F58.tr F64)
    · intro l1I l3I l6I l7J l9I l10I S V Ln c s R h hk hn k
      rw [mL_isOne_go, if_neg (by decide), if_neg (by decide), if_pos rfl] at h
      rw [rL_isOne_go, if_neg (by decide), if_neg (by decide), if_pos rfl]
      unfold mL_isOne_b2 at h
      unfold rL_isOne_b2
      obtain ⟨v77, L78, V78, hv77, h⟩ := mBA_some h
      have mv77 : mP L78 ≤ mP Ln := ML_type hv77
      have qv77 : mP Ln1 ≤ mP L78 := by
        rcases mIf_some h with ⟨_, h⟩ | ⟨_, h⟩
        · obtain ⟨_, _, _, z43, h⟩ := mBA_some h
          refine Nat.le_trans ?_ (ML_check z43)
          rcases mIf_some h with ⟨_, h⟩ | ⟨_, h⟩
          · obtain ⟨_, _, h⟩ := mLt_some h
            exact ihM.2.1 _ _ _ _ _ _ _ h
          · cases h
            exact Nat.le_refl _
        · obtain ⟨_, _, _, z44, h⟩ := mBA_some h
          refine Nat.le_trans ?_ (ML_check z44)
          rcases mIf_some h with ⟨_, h⟩ | ⟨_, h⟩
          · obtain ⟨_, _, h⟩ := mLt_some h
            exact ihM.2.1 _ _ _ _ _ _ _ h
          · cases h
            exact Nat.le_refl _
      refine ⟨(mP Ln - mP L78) / 16, mP Ln - mP L78, by omega, by omega, ?_⟩
      refine LL_type hv77 R rfl rfl (by omega) (by omega) (fun S78 R78 F78 => ?_)
      refine mIf h Iff.rfl (fun c45 h => ?_) (fun c45 h => ?_)
      · obtain ⟨v90, L91, V91, hv90, h⟩ := mBA_some h
        have mv90 : mP L91 ≤ mP L78 := ML_check hv90
        have qv90 : mP Ln1 ≤ mP L91 := by
          rcases mIf_some h with ⟨_, h⟩ | ⟨_, h⟩
          · obtain ⟨_, _, h⟩ := mLt_some h
            exact ihM.2.1 _ _ _ _ _ _ _ h
          · cases h
            exact Nat.le_refl _
        refine ⟨(mP L78 - mP L91) / 16, mP L78 - mP L91, by omega, by omega, ?_⟩
        refine LL_check hv90 R78 rfl rfl rfl (by omega) (by omega) (fun S91 R91 F91 => ?_)
        refine mIf h Iff.rfl (fun c46 h => ?_) (fun c46 h => ?_)
        · refine mLet h rfl (fun x96 ex96 h => ?_)
          exact ih.2.1 _ _ _ _ _ _ _ _ _ _ R91 h (by omega) (by omega) (fun S1 R1 F1 => k S1 R1 (F78.tr (F91.tr F1)))
        · obtain ⟨rfl, rfl, rfl⟩ := mRA3 h
          exact k _ R91 (F78.tr F91)
      · obtain ⟨v83, L84, V84, hv83, h⟩ := mBA_some h
        have mv83 : mP L84 ≤ mP L78 := ML_check hv83
        have qv83 : mP Ln1 ≤ mP L84 := by
          rcases mIf_some h with ⟨_, h⟩ | ⟨_, h⟩
          · obtain ⟨_, _, h⟩ := mLt_some h
            exact ihM.2.1 _ _ _ _ _ _ _ h
          · cases h
            exact Nat.le_refl _
        refine ⟨(mP L78 - mP L84) / 16, mP L78 - mP L84, by omega, by omega, ?_⟩
        refine LL_check hv83 R78 rfl rfl rfl (by omega) (by omega) (fun S84 R84 F84 => ?_)
        refine mIf h Iff.rfl (fun c47 h => ?_) (fun c47 h => ?_)
        · refine mLet h rfl (fun x89 ex89 h => ?_)
          exact ih.2.1 _ _ _ _ _ _ _ _ _ _ R84 h (by omega) (by omega) (fun S1 R1 F1 => k S1 R1 (F78.tr (F84.tr F1)))
        · obtain ⟨rfl, rfl, rfl⟩ := mRA3 h
          exact k _ R84 (F78.tr F84)
    · intro l1I l3I l6I l9I S V Ln c s R h hk hn k
      rw [mL_isOne_go, if_neg (by decide), if_neg (by decide), if_neg (by decide), if_pos rfl] at h
      rw [rL_isOne_go, if_neg (by decide), if_neg (by decide), if_neg (by decide), if_pos rfl]
      unfold mL_isOne_b3 at h
      unfold rL_isOne_b3
      refine mIf h Iff.rfl (fun c48 h => ?_) (fun c48 h => ?_)
      · obtain ⟨rfl, rfl, rfl⟩ := mRA3 h
        exact k _ R mFr.rf
      · refine mIf h Iff.rfl (fun c49 h => ?_) (fun c49 h => ?_)
        · obtain ⟨v116, L117, V117, hv116, h⟩ := mBA_some h
          have mv116 : mP L117 ≤ mP Ln := ML_check hv116
          have qv116 : mP Ln1 ≤ mP L117 := by
            rcases mIf_some h with ⟨_, h⟩ | ⟨_, h⟩
            · obtain ⟨_, _, h⟩ := mBN_some h
              obtain ⟨_, _, _, z50, h⟩ := mBA_some h
              refine Nat.le_trans ?_ (ML_type z50)
              obtain ⟨_, _, h⟩ := mLt_some h
              exact ihM.2.2.2 _ _ _ _ _ _ h
            · cases h
              exact Nat.le_refl _
          refine ⟨(mP Ln - mP L117) / 16, mP Ln - mP L117, by omega, by omega, ?_⟩
          refine LL_check hv116 R rfl rfl rfl (by omega) (by omega) (fun S117 R117 F117 => ?_)
          refine mIf h Iff.rfl (fun c51 h => ?_) (fun c51 h => ?_)
          · obtain ⟨v122, hv122, h⟩ := mBN_some h
            refine LL_drawn hv122 rfl rfl ?_
            obtain ⟨v127, L128, V128, hv127, h⟩ := mBA_some h
            have mv127 : mP L128 ≤ mP L117 := ML_type hv127
            have qv127 : mP Ln1 ≤ mP L128 := by
              obtain ⟨_, _, h⟩ := mLt_some h
              exact ihM.2.2.2 _ _ _ _ _ _ h
            refine ⟨(mP L117 - mP L128) / 16, mP L117 - mP L128, by omega, by omega, ?_⟩
            refine LL_type hv127 R117 rfl rfl (by omega) (by omega) (fun S128 R128 F128 => ?_)
            refine mLet h rfl (fun x132 ex132 h => ?_)
            exact ih.2.2.2 _ _ _ _ _ _ _ _ _ R128 h (by omega) (by omega) (fun S1 R1 F1 => k S1 R1 (F117.tr (F128.tr F1)))
          · obtain ⟨rfl, rfl, rfl⟩ := mRA3 h
            exact k _ R117 F117
        · obtain ⟨v99, L100, V100, hv99, h⟩ := mBA_some h
          have mv99 : mP L100 ≤ mP Ln := ML_check hv99
          have qv99 : mP Ln1 ≤ mP L100 := by
            rcases mIf_some h with ⟨_, h⟩ | ⟨_, h⟩
            · obtain ⟨_, _, h⟩ := mBN_some h
              obtain ⟨_, _, _, z52, h⟩ := mBA_some h
              refine Nat.le_trans ?_ (ML_type z52)
              obtain ⟨_, _, h⟩ := mLt_some h
              exact ihM.2.2.2 _ _ _ _ _ _ h
            · cases h
              exact Nat.le_refl _
          refine ⟨(mP Ln - mP L100) / 16, mP Ln - mP L100, by omega, by omega, ?_⟩
          refine LL_check hv99 R rfl rfl rfl (by omega) (by omega) (fun S100 R100 F100 => ?_)
          refine mIf h Iff.rfl (fun c53 h => ?_) (fun c53 h => ?_)
          · obtain ⟨v105, hv105, h⟩ := mBN_some h
            refine LL_drawn hv105 rfl rfl ?_
            obtain ⟨v110, L111, V111, hv110, h⟩ := mBA_some h
            have mv110 : mP L111 ≤ mP L100 := ML_type hv110
            have qv110 : mP Ln1 ≤ mP L111 := by
              obtain ⟨_, _, h⟩ := mLt_some h
              exact ihM.2.2.2 _ _ _ _ _ _ h
            refine ⟨(mP L100 - mP L111) / 16, mP L100 - mP L111, by omega, by omega, ?_⟩
            refine LL_type hv110 R100 rfl rfl (by omega) (by omega) (fun S111 R111 F111 => ?_)
            refine mLet h rfl (fun x115 ex115 h => ?_)
            exact ih.2.2.2 _ _ _ _ _ _ _ _ _ R111 h (by omega) (by omega) (fun S1 R1 F1 => k S1 R1 (F100.tr (F111.tr F1)))
          · obtain ⟨rfl, rfl, rfl⟩ := mRA3 h
            exact k _ R100 F100
set_option maxHeartbeats 4000000 in
set_option maxRecDepth 100000 in
theorem LL_isOne {G : wkG} {α : Nat → Nat} {F : Nat} {S : wPS} {Ln Ln1 : Nat → Nat} {V V1 : mV} {v : Int32} {Φ : (Int32 → wPS → Prop)} {l0Ax : Nat} {l1Ix l1I : Int32} {l3Ix l3I : Int32} {k0 n0 : Nat} (h : mL_isOne G F Ln l1I l3I V = some (v, Ln1, V1)) (R : mRel α S Ln V) (el0A : l0Ax = α 0) (el1I : l1Ix = l1I) (el3I : l3Ix = l3I) (hk : (mP Ln - mP Ln1) / 16 ≤ k0) (hn : mP Ln - mP Ln1 ≤ n0) (k : (∀ S1, mRel α S1 Ln1 V1 → mFr α S S1 → Φ v S1)) : rL_isOne G F k0 n0 l0Ax l1Ix l3Ix S Φ := by
  have el0A := el0A.symm
  subst el0A
  have el1I := el1I.symm
  subst el1I
  have el3I := el3I.symm
  subst el3I
  have ih := LL_isOne_go (G := G)  (α := α) (F := F) (v := v) (k0 := k0) (n0 := n0) (Ln1 := Ln1) (Φ := Φ) (V1 := V1) F
  have ihM := ML_isOne_go (G := G) (F := F) (v := v) (Ln1 := Ln1) (V1 := V1) F
  unfold mL_isOne mL_isOne_s at h
  unfold rL_isOne rL_isOne_s
  obtain ⟨v133, L134, V134, hv133, h⟩ := mBA_some h
  have mv133 : mP L134 ≤ mP Ln := ML_answer hv133
  have qv133 : mP Ln1 ≤ mP L134 := by
    rcases mIf_some h with ⟨_, h⟩ | ⟨_, h⟩
    · exact ihM.1 _ _ _ _ _ h
    · rcases mIf_some h with ⟨_, h⟩ | ⟨_, h⟩
      · exact ihM.1 _ _ _ _ _ h
      · cases h
        exact Nat.le_refl _
  refine ⟨(mP Ln - mP L134) / 16, mP Ln - mP L134, by omega, by omega, ?_⟩
  refine LL_answer hv133 R rfl rfl (by omega) (by omega) (fun S134 R134 F134 => ?_)
  refine mIf h Iff.rfl (fun c54 h => ?_) (fun c54 h => ?_)
  · exact ih.1 _ _ _ _ _ _ _ _ R134 h (by omega) (by omega) (fun S1 R1 F1 => k S1 R1 (F134.tr F1))
  · refine mIf h Iff.rfl (fun c55 h => ?_) (fun c55 h => ?_)
    · exact ih.1 _ _ _ _ _ _ _ _ R134 h (by omega) (by omega) (fun S1 R1 F1 => k S1 R1 (F134.tr F1))
    · obtain ⟨rfl, rfl, rfl⟩ := mRA3 h
      exact k _ R134 F134
def mL_areOne_b0 (G : wkG) (F : Nat) (rec : Nat → (Nat → Nat) → Int32 → Int32 → mV → Option (Int32 × (Nat → Nat) × mV)) (Ln : Nat → Nat) (l2I : Int32) (l3I : Int32) (V : mV) : Option (Int32 × (Nat → Nat) × mV) :=
  (mBN (mL_entries G F V) fun v1 => (if 0 ≤ (lg_cmp (Int32.toInt64 l3I) v1) then some ((1 : Int32), Ln, V) else (mBA (mL_isOne G F Ln (l3I) ((l2I + ((7 : Int32) * l3I))) V) fun v7 L8 V8 => (if v7 = 0 then some ((0 : Int32), L8, V8) else (mLt (l3I + (1 : Int32)) fun x13 => (rec 0 L8 (l2I) (x13) V8))))))
def mL_areOne_go (G : wkG) (F : Nat) : Nat → Nat → (Nat → Nat) → Int32 → Int32 → mV → Option (Int32 × (Nat → Nat) × mV)
  | 0, _, _, _, _, _ => none
  | k' + 1, lab, Ln, l2I, l3I, V => if lab = 0 then mL_areOne_b0 G F (mL_areOne_go G F k') Ln l2I l3I V else none
def mL_areOne_s (G : wkG) (F : Nat) (rec : Nat → (Nat → Nat) → Int32 → Int32 → mV → Option (Int32 × (Nat → Nat) × mV)) (Ln : Nat → Nat) (l2I : Int32) (V : mV) : Option (Int32 × (Nat → Nat) × mV) :=
  (rec 0 Ln (l2I) ((0 : Int32)) V)
def mL_areOne (G : wkG) (F : Nat) (Ln : Nat → Nat) (l2I : Int32) (V : mV) : Option (Int32 × (Nat → Nat) × mV) := mL_areOne_s G F (mL_areOne_go G F F) Ln l2I V
set_option maxHeartbeats 4000000 in
set_option maxRecDepth 100000 in
theorem ML_areOne_go {G : wkG} {F : Nat} {v : Int32} {Ln1 : Nat → Nat} {V1 : mV} : ∀ k' : Nat, (∀ (l2I : Int32) (l3I : Int32) (Ln : Nat → Nat) (V : mV), mL_areOne_go G F k' 0 Ln l2I l3I V = some (v, Ln1, V1) → mP Ln1 ≤ mP Ln) := by
  intro k'
  induction k' with
  | zero => exact (fun _ _ _ _ h => by cases h)
  | succ k' ihM =>
    skip
    intro l2I l3I Ln V h
    rw [mL_areOne_go, if_pos rfl] at h
    unfold mL_areOne_b0 at h
    obtain ⟨_, _, h⟩ := mBN_some h
    rcases mIf_some h with ⟨_, h⟩ | ⟨_, h⟩
    · cases h
      exact Nat.le_refl _
    · obtain ⟨_, _, _, z1, h⟩ := mBA_some h
      refine Nat.le_trans ?_ (ML_isOne z1)
      rcases mIf_some h with ⟨_, h⟩ | ⟨_, h⟩
      · cases h
        exact Nat.le_refl _
      · obtain ⟨_, _, h⟩ := mLt_some h
        exact ihM _ _ _ _ h
set_option maxHeartbeats 4000000 in
set_option maxRecDepth 100000 in
theorem ML_areOne {G : wkG} {F : Nat} {Ln Ln1 : Nat → Nat} {V V1 : mV} {v : Int32} {l2I : Int32} (h : mL_areOne G F Ln l2I V = some (v, Ln1, V1)) : mP Ln1 ≤ mP Ln := by
  have ihM := ML_areOne_go (G := G) (F := F) (v := v) (Ln1 := Ln1) (V1 := V1) F
  unfold mL_areOne mL_areOne_s at h
  exact ihM _ _ _ _ h
set_option maxHeartbeats 4000000 in
set_option maxRecDepth 100000 in
theorem LL_areOne_go {G : wkG} {α : Nat → Nat} {k0 n0 : Nat} {F : Nat} {v : Int32} {Ln1 : Nat → Nat} {V1 : mV} {Φ : (Int32 → wPS → Prop)} : ∀ k' : Nat, (∀ (l2I : Int32) (l3I : Int32) (S : wPS) (V : mV) (Ln : Nat → Nat) (c s : Nat), mRel α S Ln V → mL_areOne_go G F k' 0 Ln l2I l3I V = some (v, Ln1, V1) → c + (mP Ln - mP Ln1) / 16 ≤ k0 → s + (mP Ln - mP Ln1) ≤ n0 → (∀ S1, mRel α S1 Ln1 V1 → mFr α S S1 → Φ v S1) → rL_areOne_go G F k0 n0 k' 0 c s (α 0) l2I l3I S Φ) := by
  intro k'
  induction k' with
  | zero => exact (fun _ _ _ _ _ _ _ _ h _ _ _ => by cases h)
  | succ k' ih =>
    have ihM := ML_areOne_go (G := G) (F := F) (v := v) (Ln1 := Ln1) (V1 := V1) k'
    intro l2I l3I S V Ln c s R h hk hn k
    rw [mL_areOne_go, if_pos rfl] at h
    rw [rL_areOne_go, if_pos rfl]
    unfold mL_areOne_b0 at h
    unfold rL_areOne_b0
    obtain ⟨v1, hv1, h⟩ := mBN_some h
    refine LL_entries hv1 R rfl ?_
    refine mIf h Iff.rfl (fun c2 h => ?_) (fun c2 h => ?_)
    · obtain ⟨rfl, rfl, rfl⟩ := mRA3 h
      exact k _ R mFr.rf
    · obtain ⟨v7, L8, V8, hv7, h⟩ := mBA_some h
      have mv7 : mP L8 ≤ mP Ln := ML_isOne hv7
      have qv7 : mP Ln1 ≤ mP L8 := by
        rcases mIf_some h with ⟨_, h⟩ | ⟨_, h⟩
        · cases h
          exact Nat.le_refl _
        · obtain ⟨_, _, h⟩ := mLt_some h
          exact ihM _ _ _ _ h
      refine ⟨(mP Ln - mP L8) / 16, mP Ln - mP L8, by omega, by omega, ?_⟩
      refine LL_isOne hv7 R rfl rfl rfl (by omega) (by omega) (fun S8 R8 F8 => ?_)
      refine mIf h Iff.rfl (fun c3 h => ?_) (fun c3 h => ?_)
      · obtain ⟨rfl, rfl, rfl⟩ := mRA3 h
        exact k _ R8 F8
      · refine mLet h rfl (fun x13 ex13 h => ?_)
        exact ih _ _ _ _ _ _ _ R8 h (by omega) (by omega) (fun S1 R1 F1 => k S1 R1 (F8.tr F1))
set_option maxHeartbeats 4000000 in
set_option maxRecDepth 100000 in
theorem LL_areOne {G : wkG} {α : Nat → Nat} {F : Nat} {S : wPS} {Ln Ln1 : Nat → Nat} {V V1 : mV} {v : Int32} {Φ : (Int32 → wPS → Prop)} {l0Ax : Nat} {l2Ix l2I : Int32} {k0 n0 : Nat} (h : mL_areOne G F Ln l2I V = some (v, Ln1, V1)) (R : mRel α S Ln V) (el0A : l0Ax = α 0) (el2I : l2Ix = l2I) (hk : (mP Ln - mP Ln1) / 16 ≤ k0) (hn : mP Ln - mP Ln1 ≤ n0) (k : (∀ S1, mRel α S1 Ln1 V1 → mFr α S S1 → Φ v S1)) : rL_areOne G F k0 n0 l0Ax l2Ix S Φ := by
  have el0A := el0A.symm
  subst el0A
  have el2I := el2I.symm
  subst el2I
  have ih := LL_areOne_go (G := G)  (α := α) (F := F) (v := v) (k0 := k0) (n0 := n0) (Ln1 := Ln1) (Φ := Φ) (V1 := V1) F
  have ihM := ML_areOne_go (G := G) (F := F) (v := v) (Ln1 := Ln1) (V1 := V1) F
  unfold mL_areOne mL_areOne_s at h
  unfold rL_areOne rL_areOne_s
  exact ih _ _ _ _ _ _ _ R h (by omega) (by omega) (fun S1 R1 F1 => k S1 R1 F1)
end
