/-! LIFTED BY PROGRAM (lift.py): X10_solveWords, X11_open, X11_wouldBeCarriedSo, X4_judge, X8_solveRoots. -/
section
def mX10_solveWords_b0 (F : Nat) (rec : Nat → (Nat → Nat) → Nat → Int32 → Int32 → Int32 → Int32 → Int32 → mV → Option (Unit × (Nat → Nat) × mV)) (Ln : Nat → Nat) (l1A : Nat) (l2I : Int32) (l3I : Int32) (l4I : Int32) (s0I : Int32) (V : mV) : Option (Unit × (Nat → Nat) × mV) :=
  (if l4I ≤ l2I then (mBW (mX3_tell F l1A ((0 : Int32)) (s0I) V) fun v2 V3 => (if l4I ≤ l2I then some ((), Ln, V3) else (rec 1 Ln l1A 0 0 (l4I) ((1 : Int32)) 0 V3))) else (if l4I ≤ l3I then (mBW (mX3_tell F l1A ((0 : Int32)) (s0I) V) fun v9 V10 => (if l4I ≤ l2I then some ((), Ln, V10) else (rec 1 Ln l1A 0 0 (l4I) ((1 : Int32)) 0 V10))) else (if l3I < 0 ∨ 256 ≤ (l3I).toNatClampNeg then none else (if (V.rI 82 (l3I).toNatClampNeg) < 0 then (mBW (mX3_tell F l1A ((0 : Int32)) (s0I) V) fun v17 V18 => (if l4I ≤ l2I then some ((), Ln, V18) else (rec 1 Ln l1A 0 0 (l4I) ((1 : Int32)) 0 V18))) else (mBW (mX3_tell F l1A ((1 : Int32)) (s0I) V) fun v23 V24 => (mBW (mX10_stepFrom F l1A (l3I) V24) fun v28 V29 => (mBA (mX10_writeSteps F Ln l1A (l2I) V29) fun v33 L34 V34 => some ((), L34, V34))))))))
def mX10_solveWords_b1 (F : Nat) (rec : Nat → (Nat → Nat) → Nat → Int32 → Int32 → Int32 → Int32 → Int32 → mV → Option (Unit × (Nat → Nat) × mV)) (Ln : Nat → Nat) (l1A : Nat) (l4I : Int32) (l7I : Int32) (V : mV) : Option (Unit × (Nat → Nat) × mV) :=
  (if l4I ≤ l7I then some ((), Ln, V) else (if l7I < 0 ∨ 256 ≤ (l7I).toNatClampNeg then none else (if (V.rI 82 (l7I).toNatClampNeg) < 0 then (mLt (l7I + (1 : Int32)) fun x41 => (rec 1 Ln l1A 0 0 (l4I) (x41) 0 V)) else (mBA (mX9_add F Ln (l1A + 2) (l7I) V) fun v42 L43 V43 => (mLt (l7I + (1 : Int32)) fun x47 => (rec 1 L43 l1A 0 0 (l4I) (x47) 0 V43))))))
def mX10_solveWords_go (F : Nat) : Nat → Nat → (Nat → Nat) → Nat → Int32 → Int32 → Int32 → Int32 → Int32 → mV → Option (Unit × (Nat → Nat) × mV)
  | 0, _, _, _, _, _, _, _, _, _ => none
  | k' + 1, lab, Ln, l1A, l2I, l3I, l4I, l7I, s0I, V => if lab = 0 then mX10_solveWords_b0 F (mX10_solveWords_go F k') Ln l1A l2I l3I l4I s0I V else if lab = 1 then mX10_solveWords_b1 F (mX10_solveWords_go F k') Ln l1A l4I l7I V else none
def mX10_solveWords_s (F : Nat) (rec : Nat → (Nat → Nat) → Nat → Int32 → Int32 → Int32 → Int32 → Int32 → mV → Option (Unit × (Nat → Nat) × mV)) (Ln : Nat → Nat) (l1A : Nat) (V : mV) : Option (Unit × (Nat → Nat) × mV) :=
  (mBN (mX10_firstWord F l1A V) fun v48 => (mBN (mX10_secondWord F l1A V) fun v53 => (mBN (mX10_beyondWords F l1A V) fun v58 => (if v58 ≤ v48 then (rec 0 Ln l1A (v48) (v53) (v58) 0 ((0 : Int32)) V) else (mBW (mX10_stepFrom F l1A (v48) V) fun v64 V65 => (rec 0 Ln l1A (v48) (v53) (v58) 0 (v64) V65))))))
def mX10_solveWords (F : Nat) (Ln : Nat → Nat) (l1A : Nat) (V : mV) : Option (Unit × (Nat → Nat) × mV) := mX10_solveWords_s F (mX10_solveWords_go F F) Ln l1A V
set_option maxHeartbeats 4000000 in
set_option maxRecDepth 100000 in
theorem MX10_solveWords_go {F : Nat} {v : Unit} {Ln1 : Nat → Nat} {V1 : mV} : ∀ k' : Nat, (∀ (l1A : Nat) (l2I : Int32) (l3I : Int32) (l4I : Int32) (s0I : Int32) (Ln : Nat → Nat) (V : mV), mX10_solveWords_go F k' 0 Ln l1A l2I l3I l4I 0 s0I V = some (v, Ln1, V1) → mP Ln1 ≤ mP Ln) ∧ (∀ (l1A : Nat) (l4I : Int32) (l7I : Int32) (Ln : Nat → Nat) (V : mV), mX10_solveWords_go F k' 1 Ln l1A 0 0 l4I l7I 0 V = some (v, Ln1, V1) → mP Ln1 ≤ mP Ln) := by
  intro k'
  induction k' with
  | zero => exact ⟨(fun _ _ _ _ _ _ _ h => by cases h), (fun _ _ _ _ _ h => by cases h)⟩
  | succ k' ihM =>
    refine ⟨?_, ?_⟩
    · intro l1A l2I l3I l4I s0I Ln V h
      rw [mX10_solveWords_go, if_pos rfl] at h
      unfold mX10_solveWords_b0 at h
      rcases mIf_some h with ⟨_, h⟩ | ⟨_, h⟩
      · obtain ⟨_, _, _, h⟩ := mBW_some h
        rcases mIf_some h with ⟨_, h⟩ | ⟨_, h⟩
        · cases h
          exact Nat.le_refl _
        · exact ihM.2 _ _ _ _ _ h
      · rcases mIf_some h with ⟨_, h⟩ | ⟨_, h⟩
        · obtain ⟨_, _, _, h⟩ := mBW_some h
          rcases mIf_some h with ⟨_, h⟩ | ⟨_, h⟩
          · cases h
            exact Nat.le_refl _
          · exact ihM.2 _ _ _ _ _ h
        · obtain ⟨_, h⟩ := mGd_some h
          rcases mIf_some h with ⟨_, h⟩ | ⟨_, h⟩
          · obtain ⟨_, _, _, h⟩ := mBW_some h
            rcases mIf_some h with ⟨_, h⟩ | ⟨_, h⟩
            · cases h
              exact Nat.le_refl _
            · exact ihM.2 _ _ _ _ _ h
          · obtain ⟨_, _, _, h⟩ := mBW_some h
            obtain ⟨_, _, _, h⟩ := mBW_some h
            obtain ⟨_, _, _, z1, h⟩ := mBA_some h
            refine Nat.le_trans ?_ (MX10_writeSteps z1)
            cases h
            exact Nat.le_refl _
    · intro l1A l4I l7I Ln V h
      rw [mX10_solveWords_go, if_neg (by decide), if_pos rfl] at h
      unfold mX10_solveWords_b1 at h
      rcases mIf_some h with ⟨_, h⟩ | ⟨_, h⟩
      · cases h
        exact Nat.le_refl _
      · obtain ⟨_, h⟩ := mGd_some h
        rcases mIf_some h with ⟨_, h⟩ | ⟨_, h⟩
        · obtain ⟨_, _, h⟩ := mLt_some h
          exact ihM.2 _ _ _ _ _ h
        · obtain ⟨_, _, _, z2, h⟩ := mBA_some h
          refine Nat.le_trans ?_ (MX9_add z2)
          obtain ⟨_, _, h⟩ := mLt_some h
          exact ihM.2 _ _ _ _ _ h
set_option maxHeartbeats 4000000 in
set_option maxRecDepth 100000 in
theorem MX10_solveWords {F : Nat} {Ln Ln1 : Nat → Nat} {V V1 : mV} {v : Unit} {l1A : Nat} (h : mX10_solveWords F Ln l1A V = some (v, Ln1, V1)) : mP Ln1 ≤ mP Ln := by
  have ihM := MX10_solveWords_go (F := F) (v := v) (Ln1 := Ln1) (V1 := V1) F
  unfold mX10_solveWords mX10_solveWords_s at h
  obtain ⟨_, _, h⟩ := mBN_some h
  obtain ⟨_, _, h⟩ := mBN_some h
  obtain ⟨_, _, h⟩ := mBN_some h
  rcases mIf_some h with ⟨_, h⟩ | ⟨_, h⟩
  · exact ihM.1 _ _ _ _ _ _ _ h
  · obtain ⟨_, _, _, h⟩ := mBW_some h
    exact ihM.1 _ _ _ _ _ _ _ h
set_option maxHeartbeats 4000000 in
set_option maxRecDepth 100000 in
theorem LX10_solveWords_go {α : Nat → Nat} {k0 n0 : Nat} {F : Nat} {v : Unit} {Ln1 : Nat → Nat} {V1 : mV} {Φ : (Unit → wPS → Prop)} : ∀ k' : Nat, (∀ (l1A : Nat) (l2I : Int32) (l3I : Int32) (l4I : Int32) (s0I : Int32) (S : wPS) (V : mV) (Ln : Nat → Nat) (c s : Nat), mRel α S Ln V → mK l1A = 3 → mX10_solveWords_go F k' 0 Ln l1A l2I l3I l4I 0 s0I V = some (v, Ln1, V1) → c + (mP Ln - mP Ln1) / 16 ≤ k0 → s + (mP Ln - mP Ln1) ≤ n0 → (∀ S1, mRel α S1 Ln1 V1 → mFr α S S1 → Φ v S1) → rX10_solveWords_go F k0 n0 k' 0 c s (α 7) (α l1A) l2I l3I l4I 0 s0I S Φ) ∧ (∀ (l1A : Nat) (l4I : Int32) (l7I : Int32) (S : wPS) (V : mV) (Ln : Nat → Nat) (c s : Nat), mRel α S Ln V → mK l1A = 3 → mX10_solveWords_go F k' 1 Ln l1A 0 0 l4I l7I 0 V = some (v, Ln1, V1) → c + (mP Ln - mP Ln1) / 16 ≤ k0 → s + (mP Ln - mP Ln1) ≤ n0 → (∀ S1, mRel α S1 Ln1 V1 → mFr α S S1 → Φ v S1) → rX10_solveWords_go F k0 n0 k' 1 c s (α 7) (α l1A) 0 0 l4I l7I 0 S Φ) := by
  intro k'
  induction k' with
  | zero => exact ⟨(fun _ _ _ _ _ _ _ _ _ _ _ _ h _ _ _ => by cases h), (fun _ _ _ _ _ _ _ _ _ _ h _ _ _ => by cases h)⟩
  | succ k' ih =>
    have ihM := MX10_solveWords_go (F := F) (v := v) (Ln1 := Ln1) (V1 := V1) k'
    refine ⟨?_, ?_⟩
    · intro l1A l2I l3I l4I s0I S V Ln c s R sl1A h hk hn k
      rw [mX10_solveWords_go, if_pos rfl] at h
      rw [rX10_solveWords_go, if_pos rfl]
      unfold mX10_solveWords_b0 at h
      unfold rX10_solveWords_b0
      refine mIf h Iff.rfl (fun c3 h => ?_) (fun c3 h => ?_)
      · obtain ⟨v2, V3, hv2, h⟩ := mBW_some h
        refine LX3_tell hv2 R sl1A rfl rfl rfl (fun S3 R3 F3 => ?_)
        refine mIf h Iff.rfl (fun c4 h => ?_) (fun c4 h => ?_)
        · obtain ⟨rfl, rfl, rfl⟩ := mRA3 h
          exact k _ R3 F3
        · exact ih.2 _ _ _ _ _ _ _ _ R3 sl1A h (by omega) (by omega) (fun S1 R1 F1 => k S1 R1 (F3.tr F1))
      · refine mIf h Iff.rfl (fun c5 h => ?_) (fun c5 h => ?_)
        · obtain ⟨v9, V10, hv9, h⟩ := mBW_some h
          refine LX3_tell hv9 R sl1A rfl rfl rfl (fun S10 R10 F10 => ?_)
          refine mIf h Iff.rfl (fun c6 h => ?_) (fun c6 h => ?_)
          · obtain ⟨rfl, rfl, rfl⟩ := mRA3 h
            exact k _ R10 F10
          · exact ih.2 _ _ _ _ _ _ _ _ R10 sl1A h (by omega) (by omega) (fun S1 R1 F1 => k S1 R1 (F10.tr F1))
        · refine mGd h (by rw [show S.len (wkAd (gWords_steps S (α 7))) = 256 from (mg_len (i := 82) R (mA13 rfl) (mg_A (t := 82) R rfl rfl))]) (fun c7 h => ?_)
          refine mIf h (by rw [show S.rI (wkAd (gWords_steps S (α 7))) (l3I).toNatClampNeg = V.rI 82 (l3I).toNatClampNeg from (mg_rI (i := 82) R (mA13 rfl) (mg_A (t := 82) R rfl rfl) rfl)]) (fun c8 h => ?_) (fun c8 h => ?_)
          · obtain ⟨v17, V18, hv17, h⟩ := mBW_some h
            refine LX3_tell hv17 R sl1A rfl rfl rfl (fun S18 R18 F18 => ?_)
            refine mIf h Iff.rfl (fun c9 h => ?_) (fun c9 h => ?_)
            · obtain ⟨rfl, rfl, rfl⟩ := mRA3 h
              exact k _ R18 F18
            · exact ih.2 _ _ _ _ _ _ _ _ R18 sl1A h (by omega) (by omega) (fun S1 R1 F1 => k S1 R1 (F18.tr F1))
          · obtain ⟨v23, V24, hv23, h⟩ := mBW_some h
            refine LX3_tell hv23 R sl1A rfl rfl rfl (fun S24 R24 F24 => ?_)
            obtain ⟨v28, V29, hv28, h⟩ := mBW_some h
            refine LX10_stepFrom hv28 R24 sl1A rfl rfl rfl (fun S29 R29 F29 => ?_)
            obtain ⟨v33, L34, V34, hv33, h⟩ := mBA_some h
            have mv33 : mP L34 ≤ mP Ln := MX10_writeSteps hv33
            have qv33 : mP Ln1 ≤ mP L34 := by
              cases h
              exact Nat.le_refl _
            refine ⟨(mP Ln - mP L34) / 16, mP Ln - mP L34, by omega, by omega, ?_⟩
            refine LX10_writeSteps hv33 R29 sl1A rfl rfl rfl (by omega) (by omega) (fun S34 R34 F34 => ?_)
            obtain ⟨rfl, rfl, rfl⟩ := mRA3 h
            exact k _ R34 (F24.tr (F29.tr F34))
    · intro l1A l4I l7I S V Ln c s R sl1A h hk hn k
      rw [mX10_solveWords_go, if_neg (by decide), if_pos rfl] at h
      rw [rX10_solveWords_go, if_neg (by decide), if_pos rfl]
      unfold mX10_solveWords_b1 at h
      unfold rX10_solveWords_b1
      refine mIf h Iff.rfl (fun c10 h => ?_) (fun c10 h => ?_)
      · obtain ⟨rfl, rfl, rfl⟩ := mRA3 h
        exact k _ R mFr.rf
      · refine mGd h (by rw [show S.len (wkAd (gWords_steps S (α 7))) = 256 from (mg_len (i := 82) R (mA13 rfl) (mg_A (t := 82) R rfl rfl))]) (fun c11 h => ?_)
        refine mIf h (by rw [show S.rI (wkAd (gWords_steps S (α 7))) (l7I).toNatClampNeg = V.rI 82 (l7I).toNatClampNeg from (mg_rI (i := 82) R (mA13 rfl) (mg_A (t := 82) R rfl rfl) rfl)]) (fun c12 h => ?_) (fun c12 h => ?_)
        · refine mLet h rfl (fun x41 ex41 h => ?_)
          exact ih.2 _ _ _ _ _ _ _ _ R sl1A h (by omega) (by omega) (fun S1 R1 F1 => k S1 R1 F1)
        · obtain ⟨v42, L43, V43, hv42, h⟩ := mBA_some h
          have mv42 : mP L43 ≤ mP Ln := MX9_add hv42
          have qv42 : mP Ln1 ≤ mP L43 := by
            obtain ⟨_, _, h⟩ := mLt_some h
            exact ihM.2 _ _ _ _ _ h
          refine ⟨(mP Ln - mP L43) / 16, mP Ln - mP L43, by omega, by omega, ?_⟩
          refine LX9_add hv42 R (mKe2 sl1A) (mg_A (t := (l1A + 2)) R (mRe sl1A rfl) rfl) rfl (by omega) (by omega) (fun S43 R43 F43 => ?_)
          refine mLet h rfl (fun x47 ex47 h => ?_)
          exact ih.2 _ _ _ _ _ _ _ _ R43 sl1A h (by omega) (by omega) (fun S1 R1 F1 => k S1 R1 (F43.tr F1))
set_option maxHeartbeats 4000000 in
set_option maxRecDepth 100000 in
theorem LX10_solveWords {α : Nat → Nat} {F : Nat} {S : wPS} {Ln Ln1 : Nat → Nat} {V V1 : mV} {v : Unit} {Φ : (Unit → wPS → Prop)} {l0Ax : Nat} {l1Ax : Nat} {l1A : Nat} {k0 n0 : Nat} (h : mX10_solveWords F Ln l1A V = some (v, Ln1, V1)) (R : mRel α S Ln V) (sl1A : mK l1A = 3) (el0A : l0Ax = α 7) (el1A : l1Ax = α l1A) (hk : (mP Ln - mP Ln1) / 16 ≤ k0) (hn : mP Ln - mP Ln1 ≤ n0) (k : (∀ S1, mRel α S1 Ln1 V1 → mFr α S S1 → Φ v S1)) : rX10_solveWords F k0 n0 l0Ax l1Ax S Φ := by
  have el0A := el0A.symm
  subst el0A
  have el1A := el1A.symm
  subst el1A
  have ih := LX10_solveWords_go  (α := α) (F := F) (v := v) (k0 := k0) (n0 := n0) (Ln1 := Ln1) (Φ := Φ) (V1 := V1) F
  have ihM := MX10_solveWords_go (F := F) (v := v) (Ln1 := Ln1) (V1 := V1) F
  unfold mX10_solveWords mX10_solveWords_s at h
  unfold rX10_solveWords rX10_solveWords_s
  obtain ⟨v48, hv48, h⟩ := mBN_some h
  refine LX10_firstWord hv48 R sl1A rfl ?_
  obtain ⟨v53, hv53, h⟩ := mBN_some h
  refine LX10_secondWord hv53 R sl1A rfl ?_
  obtain ⟨v58, hv58, h⟩ := mBN_some h
  refine LX10_beyondWords hv58 R sl1A rfl ?_
  refine mIf h Iff.rfl (fun c13 h => ?_) (fun c13 h => ?_)
  · exact ih.1 _ _ _ _ _ _ _ _ _ _ R sl1A h (by omega) (by omega) (fun S1 R1 F1 => k S1 R1 F1)
  · obtain ⟨v64, V65, hv64, h⟩ := mBW_some h
    refine LX10_stepFrom hv64 R sl1A rfl rfl rfl (fun S65 R65 F65 => ?_)
    exact ih.1 _ _ _ _ _ _ _ _ _ _ R65 sl1A h (by omega) (by omega) (fun S1 R1 F1 => k S1 R1 (F65.tr F1))
def mX11_open (F : Nat) (Ln : Nat → Nat) (l1I : Int32) (l2I : Int32) (l3I : Int32) (V : mV) : Option ((String ⊕ Int32) × (Nat → Nat) × mV) :=
  (mBN (mJ0_indexOf_0f7a4 F (l1I)) fun v1 => (if v1 < 0 then (mTh Ln "java/lang/IllegalArgumentException" V) else (mBN (mX11_canHaveSize F (v1) (l2I)) fun v8 => (if v8 = 0 then (mTh Ln "java/lang/IllegalArgumentException" V) else (mBN (mX11_canHaveBound F (v1) (l3I)) fun v15 => (if v15 = 0 then (mTh Ln "java/lang/IllegalArgumentException" V) else (if (V.fI 0 2) < (12 : Int32) then (if (V.fI 0 2) < 0 ∨ 12 ≤ ((V.fI 0 2)).toNatClampNeg then none else (mBW (mX3_begin F (256 + 8 * ((V.fI 0 2)).toNatClampNeg) (v1) (l2I) (l3I) V) fun v24 V25 => (mBW (mX11_remember F ((111 : Int32)) ((V25.fI 0 2)) V25) fun v29 V30 => (mLt (mF V30 0 2 (((V30.fI 0 2) + (1 : Int32)))) fun V34 => some ((.inr (((V34.fI 0 2) - (1 : Int32)))), Ln, V34))))) else (mTh Ln "java/lang/IllegalStateException" V))))))))
set_option maxHeartbeats 4000000 in
set_option maxRecDepth 100000 in
theorem MX11_open {F : Nat} {Ln Ln1 : Nat → Nat} {V V1 : mV} {v : (String ⊕ Int32)} {l1I : Int32} {l2I : Int32} {l3I : Int32} (h : mX11_open F Ln l1I l2I l3I V = some (v, Ln1, V1)) : mP Ln1 ≤ mP Ln := by
  unfold mX11_open at h
  obtain ⟨_, _, h⟩ := mBN_some h
  rcases mIf_some h with ⟨_, h⟩ | ⟨_, h⟩
  · obtain ⟨rfl, rfl, rfl, hth⟩ := mTh_some h
    omega
  · obtain ⟨_, _, h⟩ := mBN_some h
    rcases mIf_some h with ⟨_, h⟩ | ⟨_, h⟩
    · obtain ⟨rfl, rfl, rfl, hth⟩ := mTh_some h
      omega
    · obtain ⟨_, _, h⟩ := mBN_some h
      rcases mIf_some h with ⟨_, h⟩ | ⟨_, h⟩
      · obtain ⟨rfl, rfl, rfl, hth⟩ := mTh_some h
        omega
      · rcases mIf_some h with ⟨_, h⟩ | ⟨_, h⟩
        · obtain ⟨_, h⟩ := mGd_some h
          obtain ⟨_, _, _, h⟩ := mBW_some h
          obtain ⟨_, _, _, h⟩ := mBW_some h
          obtain ⟨_, _, h⟩ := mLt_some h
          cases h
          exact Nat.le_refl _
        · obtain ⟨rfl, rfl, rfl, hth⟩ := mTh_some h
          omega
set_option maxHeartbeats 4000000 in
set_option maxRecDepth 100000 in
theorem LX11_open {α : Nat → Nat} {F : Nat} {S : wPS} {Ln Ln1 : Nat → Nat} {V V1 : mV} {v : (String ⊕ Int32)} {Φ : (Int32 → wPS → Prop)} {Ψ : String → wPS → Prop} {l0Ax : Nat} {l1Ix l1I : Int32} {l2Ix l2I : Int32} {l3Ix l3I : Int32} {k0 n0 : Nat} (h : mX11_open F Ln l1I l2I l3I V = some (v, Ln1, V1)) (R : mRel α S Ln V) (el0A : l0Ax = α 0) (el1I : l1Ix = l1I) (el2I : l2Ix = l2I) (el3I : l3Ix = l3I) (hk : (mP Ln - mP Ln1) / 16 ≤ k0) (hn : mP Ln - mP Ln1 ≤ n0) (k : (∀ S1, mRel α S1 Ln1 V1 → mFr α S S1 → mOut Φ Ψ v S1)) : rX11_open F k0 n0 l0Ax l1Ix l2Ix l3Ix S Φ Ψ := by
  have el0A := el0A.symm
  subst el0A
  have el1I := el1I.symm
  subst el1I
  have el2I := el2I.symm
  subst el2I
  have el3I := el3I.symm
  subst el3I
  unfold mX11_open at h
  unfold rX11_open
  obtain ⟨v1, hv1, h⟩ := mBN_some h
  refine LJ0_indexOf_0f7a4 hv1 rfl ?_
  refine mIf h Iff.rfl (fun c1 h => ?_) (fun c1 h => ?_)
  · obtain ⟨rfl, rfl, rfl, hth⟩ := mTh_some h
    exact ⟨by omega, by omega, k _ (mRel_th R) mFr.rf⟩
  · obtain ⟨v8, hv8, h⟩ := mBN_some h
    refine LX11_canHaveSize hv8 rfl rfl ?_
    refine mIf h Iff.rfl (fun c2 h => ?_) (fun c2 h => ?_)
    · obtain ⟨rfl, rfl, rfl, hth⟩ := mTh_some h
      exact ⟨by omega, by omega, k _ (mRel_th R) mFr.rf⟩
    · obtain ⟨v15, hv15, h⟩ := mBN_some h
      refine LX11_canHaveBound hv15 rfl rfl ?_
      refine mIf h Iff.rfl (fun c3 h => ?_) (fun c3 h => ?_)
      · obtain ⟨rfl, rfl, rfl, hth⟩ := mTh_some h
        exact ⟨by omega, by omega, k _ (mRel_th R) mFr.rf⟩
      · refine mIf h (by rw [show gWitnessworks_entryCount S (α 0) = V.fI 0 2 from (mg_I (i := 0) R (by decide) rfl 2)]) (fun c4 h => ?_) (fun c4 h => ?_)
        · refine mGd h (by rw [show S.len (wkAd (gWitnessworks_book S (α 0))) = 12 from (mg_len (i := 10) R (mAr (by decide)) (mg_A (t := 10) R rfl rfl)), show gWitnessworks_entryCount S (α 0) = V.fI 0 2 from (mg_I (i := 0) R (by decide) rfl 2)]) (fun c5 h => ?_)
          obtain ⟨v24, V25, hv24, h⟩ := mBW_some h
          refine LX3_begin hv24 R (mKA10 (Nat.lt_of_not_le (fun z => c5 (Or.inr z)))) (mg_RA R (mRA10 (Nat.lt_of_not_le (fun z => c5 (Or.inr z)))) (mg_A (t := 10) R rfl rfl) (by rw [show gWitnessworks_entryCount S (α 0) = V.fI 0 2 from (mg_I (i := 0) R (by decide) rfl 2)])) rfl rfl rfl (fun S25 R25 F25 => ?_)
          obtain ⟨v29, V30, hv29, h⟩ := mBW_some h
          refine LX11_remember hv29 R25 rfl rfl (by rw [show gWitnessworks_entryCount S25 (α 0) = V25.fI 0 2 from (mg_I (i := 0) R25 (by decide) rfl 2)]) (fun S30 R30 F30 => ?_)
          obtain ⟨V34, eV34, h⟩ := mLt_some h
          refine mU_F eV34 R30 (by decide) rfl (by rw [show gWitnessworks_entryCount S30 (α 0) = V30.fI 0 2 from (mg_I (i := 0) R30 (by decide) rfl 2)]) (fun S34 R34 F34 => ?_)
          obtain ⟨rfl, rfl, rfl⟩ := mRA3 h
          rw [show gWitnessworks_entryCount S34 (α 0) = V34.fI 0 2 from (mg_I (i := 0) R34 (by decide) rfl 2)]
          exact k _ R34 (F25.tr (F30.tr F34))
        · obtain ⟨rfl, rfl, rfl, hth⟩ := mTh_some h
          exact ⟨by omega, by omega, k _ (mRel_th R) mFr.rf⟩
theorem LX11_open_E {α : Nat → Nat} {F : Nat} {S : wPS} {Ln Ln1 : Nat → Nat} {V V1 : mV} {e : String} {Φ : (Int32 → wPS → Prop)} {Ψ : String → wPS → Prop} {l0Ax : Nat} {l1Ix l1I : Int32} {l2Ix l2I : Int32} {l3Ix l3I : Int32} {k0 n0 : Nat} (h : mX11_open F Ln l1I l2I l3I V = some (.inl e, Ln1, V1)) (R : mRel α S Ln V) (el0A : l0Ax = α 0) (el1I : l1Ix = l1I) (el2I : l2Ix = l2I) (el3I : l3Ix = l3I) (hk : (mP Ln - mP Ln1) / 16 ≤ k0) (hn : mP Ln - mP Ln1 ≤ n0) (k : ∀ S1, mRel α S1 Ln1 V1 → mFr α S S1 → Ψ e S1) : rX11_open F k0 n0 l0Ax l1Ix l2Ix l3Ix S Φ Ψ := LX11_open h R el0A el1I el2I el3I hk hn k
theorem LX11_open_V {α : Nat → Nat} {F : Nat} {S : wPS} {Ln Ln1 : Nat → Nat} {V V1 : mV} {a : Int32} {Φ : (Int32 → wPS → Prop)} {Ψ : String → wPS → Prop} {l0Ax : Nat} {l1Ix l1I : Int32} {l2Ix l2I : Int32} {l3Ix l3I : Int32} {k0 n0 : Nat} (h : mX11_open F Ln l1I l2I l3I V = some (.inr a, Ln1, V1)) (R : mRel α S Ln V) (el0A : l0Ax = α 0) (el1I : l1Ix = l1I) (el2I : l2Ix = l2I) (el3I : l3Ix = l3I) (hk : (mP Ln - mP Ln1) / 16 ≤ k0) (hn : mP Ln - mP Ln1 ≤ n0) (k : ∀ S1, mRel α S1 Ln1 V1 → mFr α S S1 → Φ a S1) : rX11_open F k0 n0 l0Ax l1Ix l2Ix l3Ix S Φ Ψ := LX11_open h R el0A el1I el2I el3I hk hn k
def mX11_wouldBeCarriedSo (F : Nat) (l1A : Nat) (V : mV) : Option (Int32 × mV) :=
  (if 0 ≤ (V.fI l1A 5) then (if (V.fI l1A 5) < 0 ∨ 12 ≤ ((V.fI l1A 5)).toNatClampNeg then none else (mBW (mX4_carriesOver F (256 + 8 * ((V.fI l1A 5)).toNatClampNeg) ((V.fI l1A 0)) 544 V) fun v4 V5 => (if v4 = 0 then some ((0 : Int32), V5) else (mBN (mX3_isSameQuestion F 544 l1A V5) fun v10 => (if v10 = 0 then some ((0 : Int32), V5) else some ((1 : Int32), V5)))))) else some ((0 : Int32), V))
set_option maxHeartbeats 4000000 in
set_option maxRecDepth 100000 in
theorem LX11_wouldBeCarriedSo {α : Nat → Nat} {F : Nat} {S : wPS} {Ln : Nat → Nat} {V V1 : mV} {v : Int32} {Φ : (Int32 → wPS → Prop)} {l0Ax : Nat} {l1Ax : Nat} {l1A : Nat} (h : mX11_wouldBeCarriedSo F l1A V = some (v, V1)) (R : mRel α S Ln V) (sl1A : mK l1A = 3) (el0A : l0Ax = α 0) (el1A : l1Ax = α l1A) (k : (∀ S1, mRel α S1 Ln V1 → mFr α S S1 → Φ v S1)) : rX11_wouldBeCarriedSo F l0Ax l1Ax S Φ := by
  have el0A := el0A.symm
  subst el0A
  have el1A := el1A.symm
  subst el1A
  unfold mX11_wouldBeCarriedSo at h
  unfold rX11_wouldBeCarriedSo
  refine mIf h (by rw [show gEntry_origin S (α l1A) = V.fI l1A 5 from (mg_I (i := l1A) R (mO3 sl1A) rfl 5)]) (fun c1 h => ?_) (fun c1 h => ?_)
  · refine mGd h (by rw [show S.len (wkAd (gWitnessworks_book S (α 0))) = 12 from (mg_len (i := 10) R (mAr (by decide)) (mg_A (t := 10) R rfl rfl)), show gEntry_origin S (α l1A) = V.fI l1A 5 from (mg_I (i := l1A) R (mO3 sl1A) rfl 5)]) (fun c2 h => ?_)
    obtain ⟨v4, V5, hv4, h⟩ := mBW_some h
    refine LX4_carriesOver hv4 R (mKA10 (Nat.lt_of_not_le (fun z => c2 (Or.inr z)))) rfl (mg_A (t := 1) R rfl rfl) (mg_RA R (mRA10 (Nat.lt_of_not_le (fun z => c2 (Or.inr z)))) (mg_A (t := 10) R rfl rfl) (by rw [show gEntry_origin S (α l1A) = V.fI l1A 5 from (mg_I (i := l1A) R (mO3 sl1A) rfl 5)])) (by rw [show gEntry_kind S (α l1A) = V.fI l1A 0 from (mg_I (i := l1A) R (mO3 sl1A) rfl 0)]) (mg_A (t := 544) R rfl rfl) (fun S5 R5 F5 => ?_)
    refine mIf h Iff.rfl (fun c3 h => ?_) (fun c3 h => ?_)
    · obtain ⟨rfl, rfl⟩ := mRW h
      exact k _ R5 F5
    · obtain ⟨v10, hv10, h⟩ := mBN_some h
      refine LX3_isSameQuestion hv10 R5 rfl sl1A (mg_A (t := 544) R5 rfl rfl) rfl ?_
      refine mIf h Iff.rfl (fun c4 h => ?_) (fun c4 h => ?_)
      · obtain ⟨rfl, rfl⟩ := mRW h
        exact k _ R5 F5
      · obtain ⟨rfl, rfl⟩ := mRW h
        exact k _ R5 F5
  · obtain ⟨rfl, rfl⟩ := mRW h
    exact k _ R mFr.rf
def mX4_judge (F : Nat) (Ln : Nat → Nat) (l1A : Nat) (l2A : Nat) (l3I : Int32) (V : mV) : Option (Int32 × mV) :=
  (if (V.fI l1A 0) = 0 then (if l3I = 0 then (mBW (mX7_judgeNodes F Ln l1A l2A V) fun v4 V5 => some (v4, V5)) else (mBW (mX7_judgePairing F Ln l1A l2A V) fun v9 V10 => some (v9, V10))) else (if (V.fI l1A 0) = 1 then (if l3I = 0 then (mBW (mX7_judgeBar F Ln l1A l2A V) fun v16 V17 => some (v16, V17)) else (mBW (mX7_judgeFlow F Ln l1A l2A V) fun v21 V22 => some (v21, V22))) else (if (V.fI l1A 0) = 2 then (if l3I = 0 then (mBW (mX2_judgeCore F Ln l1A l2A V) fun v28 V29 => some (v28, V29)) else (mBW (mX2_judgeDrawing F Ln l1A l2A V) fun v33 V34 => some (v33, V34))) else (if (V.fI l1A 0) = 3 then (if l3I = 0 then (mBN (mX5_judgeWeights F Ln l1A l2A V) fun v40 => some (v40, V)) else (mBN (mX5_judgeUnknowns F Ln l1A l2A V) fun v45 => some (v45, V))) else (if (V.fI l1A 0) = 4 then (if l3I = 0 then (mBW (mX1_judgeTree F Ln l1A l2A V) fun v52 V53 => some (v52, V53)) else (mBW (mX1_judgeTruths F Ln l1A l2A V) fun v57 V58 => some (v57, V58))) else (if (V.fI l1A 0) = 5 then (if l3I = 0 then (mBN (mX8_judgeModulus F Ln l1A l2A V) fun v64 => some (v64, V)) else (mBN (mX8_judgeUnknowns F Ln l1A l2A V) fun v69 => some (v69, V))) else (if (V.fI l1A 0) = 6 then (if l3I = 0 then (mBN (mX8_judgeProduct F Ln l1A l2A V) fun v76 => some (v76, V)) else (mBN (mX8_judgePrime F Ln l1A l2A V) fun v81 => some (v81, V))) else (if (V.fI l1A 0) = 7 then (if l3I = 0 then (mBW (mX8_judgeSigns F Ln l1A l2A V) fun v88 V89 => some (v88, V89)) else (mBW (mX8_judgeParts F Ln l1A l2A V) fun v93 V94 => some (v93, V94))) else (if (V.fI l1A 0) = 8 then (if l3I = 0 then (mBW (mX10_judgeRows F Ln l1A l2A V) fun v100 V101 => some (v100, V101)) else (mBW (mX10_judgeItems F Ln l1A l2A V) fun v105 V106 => some (v105, V106))) else (if (V.fI l1A 0) = 9 then (if l3I = 0 then (mBW (mX10_judgeClosure F Ln l1A l2A V) fun v112 V113 => some (v112, V113)) else (mBW (mX10_judgeSteps F Ln l1A l2A V) fun v117 V118 => some (v117, V118))) else (if (V.fI l1A 0) = 10 then (if l3I = 0 then (mBW (mX6_judgeLetters F Ln l1A l2A V) fun v124 V125 => some (v124, V125)) else (mBW (mX6_judgeLikeness F Ln l1A l2A V) fun v129 V130 => some (v129, V130))) else (if l3I = 0 then (mBW (mX6_judgeGame F Ln l1A l2A ((1 : Int32)) V) fun v135 V136 => some (v135, V136)) else (mBW (mX6_judgeGame F Ln l1A l2A ((0 : Int32)) V) fun v140 V141 => some (v140, V141))))))))))))))
set_option maxHeartbeats 4000000 in
set_option maxRecDepth 100000 in
theorem LX4_judge {α : Nat → Nat} {F : Nat} {S : wPS} {Ln : Nat → Nat} {V V1 : mV} {v : Int32} {Φ : (Int32 → wPS → Prop)} {l0Ax : Nat} {l1Ax : Nat} {l1A : Nat} {l2Ax : Nat} {l2A : Nat} {l3Ix l3I : Int32} (h : mX4_judge F Ln l1A l2A l3I V = some (v, V1)) (R : mRel α S Ln V) (sl1A : mK l1A = 3) (sl2A : mK l2A = 9) (el0A : l0Ax = α 1) (el1A : l1Ax = α l1A) (el2A : l2Ax = α l2A) (el3I : l3Ix = l3I) (k : (∀ S1, mRel α S1 Ln V1 → mFr α S S1 → Φ v S1)) : rX4_judge F l0Ax l1Ax l2Ax l3Ix S Φ := by
  have el0A := el0A.symm
  subst el0A
  have el1A := el1A.symm
  subst el1A
  have el2A := el2A.symm
  subst el2A
  have el3I := el3I.symm
  subst el3I
  unfold mX4_judge at h
  unfold rX4_judge
  refine mIf h (by rw [show gEntry_kind S (α l1A) = V.fI l1A 0 from (mg_I (i := l1A) R (mO3 sl1A) rfl 0)]) (fun c1 h => ?_) (fun c1 h => ?_)
  · refine mIf h Iff.rfl (fun c2 h => ?_) (fun c2 h => ?_)
    · obtain ⟨v4, V5, hv4, h⟩ := mBW_some h
      refine LX7_judgeNodes hv4 R sl1A sl2A (mg_A (t := 2) R rfl rfl) rfl rfl (fun S5 R5 F5 => ?_)
      obtain ⟨rfl, rfl⟩ := mRW h
      exact k _ R5 F5
    · obtain ⟨v9, V10, hv9, h⟩ := mBW_some h
      refine LX7_judgePairing hv9 R sl1A sl2A (mg_A (t := 2) R rfl rfl) rfl rfl (fun S10 R10 F10 => ?_)
      obtain ⟨rfl, rfl⟩ := mRW h
      exact k _ R10 F10
  · refine mIf h (by rw [show gEntry_kind S (α l1A) = V.fI l1A 0 from (mg_I (i := l1A) R (mO3 sl1A) rfl 0)]) (fun c3 h => ?_) (fun c3 h => ?_)
    · refine mIf h Iff.rfl (fun c4 h => ?_) (fun c4 h => ?_)
      · obtain ⟨v16, V17, hv16, h⟩ := mBW_some h
        refine LX7_judgeBar hv16 R sl1A sl2A (mg_A (t := 2) R rfl rfl) rfl rfl (fun S17 R17 F17 => ?_)
        obtain ⟨rfl, rfl⟩ := mRW h
        exact k _ R17 F17
      · obtain ⟨v21, V22, hv21, h⟩ := mBW_some h
        refine LX7_judgeFlow hv21 R sl1A sl2A (mg_A (t := 2) R rfl rfl) rfl rfl (fun S22 R22 F22 => ?_)
        obtain ⟨rfl, rfl⟩ := mRW h
        exact k _ R22 F22
    · refine mIf h (by rw [show gEntry_kind S (α l1A) = V.fI l1A 0 from (mg_I (i := l1A) R (mO3 sl1A) rfl 0)]) (fun c5 h => ?_) (fun c5 h => ?_)
      · refine mIf h Iff.rfl (fun c6 h => ?_) (fun c6 h => ?_)
        · obtain ⟨v28, V29, hv28, h⟩ := mBW_some h
          refine LX2_judgeCore hv28 R sl1A sl2A (mg_A (t := 3) R rfl rfl) rfl rfl (fun S29 R29 F29 => ?_)
          obtain ⟨rfl, rfl⟩ := mRW h
          exact k _ R29 F29
        · obtain ⟨v33, V34, hv33, h⟩ := mBW_some h
          refine LX2_judgeDrawing hv33 R sl1A sl2A (mg_A (t := 3) R rfl rfl) rfl rfl (fun S34 R34 F34 => ?_)
          obtain ⟨rfl, rfl⟩ := mRW h
          exact k _ R34 F34
      · refine mIf h (by rw [show gEntry_kind S (α l1A) = V.fI l1A 0 from (mg_I (i := l1A) R (mO3 sl1A) rfl 0)]) (fun c7 h => ?_) (fun c7 h => ?_)
        · refine mIf h Iff.rfl (fun c8 h => ?_) (fun c8 h => ?_)
          · obtain ⟨v40, hv40, h⟩ := mBN_some h
            refine LX5_judgeWeights hv40 R sl1A sl2A (mg_A (t := 4) R rfl rfl) rfl rfl ?_
            obtain ⟨rfl, rfl⟩ := mRW h
            exact k _ R mFr.rf
          · obtain ⟨v45, hv45, h⟩ := mBN_some h
            refine LX5_judgeUnknowns hv45 R sl1A sl2A (mg_A (t := 4) R rfl rfl) rfl rfl ?_
            obtain ⟨rfl, rfl⟩ := mRW h
            exact k _ R mFr.rf
        · refine mIf h (by rw [show gEntry_kind S (α l1A) = V.fI l1A 0 from (mg_I (i := l1A) R (mO3 sl1A) rfl 0)]) (fun c9 h => ?_) (fun c9 h => ?_)
          · refine mIf h Iff.rfl (fun c10 h => ?_) (fun c10 h => ?_)
            · obtain ⟨v52, V53, hv52, h⟩ := mBW_some h
              refine LX1_judgeTree hv52 R sl1A sl2A (mg_A (t := 5) R rfl rfl) rfl rfl (fun S53 R53 F53 => ?_)
              obtain ⟨rfl, rfl⟩ := mRW h
              exact k _ R53 F53
            · obtain ⟨v57, V58, hv57, h⟩ := mBW_some h
              refine LX1_judgeTruths hv57 R sl1A sl2A (mg_A (t := 5) R rfl rfl) rfl rfl (fun S58 R58 F58 => ?_)
              obtain ⟨rfl, rfl⟩ := mRW h
              exact k _ R58 F58
          · refine mIf h (by rw [show gEntry_kind S (α l1A) = V.fI l1A 0 from (mg_I (i := l1A) R (mO3 sl1A) rfl 0)]) (fun c11 h => ?_) (fun c11 h => ?_)
            · refine mIf h Iff.rfl (fun c12 h => ?_) (fun c12 h => ?_)
              · obtain ⟨v64, hv64, h⟩ := mBN_some h
                refine LX8_judgeModulus hv64 R sl1A sl2A (mg_A (t := 6) R rfl rfl) rfl rfl ?_
                obtain ⟨rfl, rfl⟩ := mRW h
                exact k _ R mFr.rf
              · obtain ⟨v69, hv69, h⟩ := mBN_some h
                refine LX8_judgeUnknowns hv69 R sl1A sl2A (mg_A (t := 6) R rfl rfl) rfl rfl ?_
                obtain ⟨rfl, rfl⟩ := mRW h
                exact k _ R mFr.rf
            · refine mIf h (by rw [show gEntry_kind S (α l1A) = V.fI l1A 0 from (mg_I (i := l1A) R (mO3 sl1A) rfl 0)]) (fun c13 h => ?_) (fun c13 h => ?_)
              · refine mIf h Iff.rfl (fun c14 h => ?_) (fun c14 h => ?_)
                · obtain ⟨v76, hv76, h⟩ := mBN_some h
                  refine LX8_judgeProduct hv76 R sl1A sl2A (mg_A (t := 6) R rfl rfl) rfl rfl ?_
                  obtain ⟨rfl, rfl⟩ := mRW h
                  exact k _ R mFr.rf
                · obtain ⟨v81, hv81, h⟩ := mBN_some h
                  refine LX8_judgePrime hv81 R sl1A sl2A (mg_A (t := 6) R rfl rfl) rfl rfl ?_
                  obtain ⟨rfl, rfl⟩ := mRW h
                  exact k _ R mFr.rf
              · refine mIf h (by rw [show gEntry_kind S (α l1A) = V.fI l1A 0 from (mg_I (i := l1A) R (mO3 sl1A) rfl 0)]) (fun c15 h => ?_) (fun c15 h => ?_)
                · refine mIf h Iff.rfl (fun c16 h => ?_) (fun c16 h => ?_)
                  · obtain ⟨v88, V89, hv88, h⟩ := mBW_some h
                    refine LX8_judgeSigns hv88 R sl1A sl2A (mg_A (t := 6) R rfl rfl) rfl rfl (fun S89 R89 F89 => ?_)
                    obtain ⟨rfl, rfl⟩ := mRW h
                    exact k _ R89 F89
                  · obtain ⟨v93, V94, hv93, h⟩ := mBW_some h
                    refine LX8_judgeParts hv93 R sl1A sl2A (mg_A (t := 6) R rfl rfl) rfl rfl (fun S94 R94 F94 => ?_)
                    obtain ⟨rfl, rfl⟩ := mRW h
                    exact k _ R94 F94
                · refine mIf h (by rw [show gEntry_kind S (α l1A) = V.fI l1A 0 from (mg_I (i := l1A) R (mO3 sl1A) rfl 0)]) (fun c17 h => ?_) (fun c17 h => ?_)
                  · refine mIf h Iff.rfl (fun c18 h => ?_) (fun c18 h => ?_)
                    · obtain ⟨v100, V101, hv100, h⟩ := mBW_some h
                      refine LX10_judgeRows hv100 R sl1A sl2A (mg_A (t := 7) R rfl rfl) rfl rfl (fun S101 R101 F101 => ?_)
                      obtain ⟨rfl, rfl⟩ := mRW h
                      exact k _ R101 F101
                    · obtain ⟨v105, V106, hv105, h⟩ := mBW_some h
                      refine LX10_judgeItems hv105 R sl1A sl2A (mg_A (t := 7) R rfl rfl) rfl rfl (fun S106 R106 F106 => ?_)
                      obtain ⟨rfl, rfl⟩ := mRW h
                      exact k _ R106 F106
                  · refine mIf h (by rw [show gEntry_kind S (α l1A) = V.fI l1A 0 from (mg_I (i := l1A) R (mO3 sl1A) rfl 0)]) (fun c19 h => ?_) (fun c19 h => ?_)
                    · refine mIf h Iff.rfl (fun c20 h => ?_) (fun c20 h => ?_)
                      · obtain ⟨v112, V113, hv112, h⟩ := mBW_some h
                        refine LX10_judgeClosure hv112 R sl1A sl2A (mg_A (t := 7) R rfl rfl) rfl rfl (fun S113 R113 F113 => ?_)
                        obtain ⟨rfl, rfl⟩ := mRW h
                        exact k _ R113 F113
                      · obtain ⟨v117, V118, hv117, h⟩ := mBW_some h
                        refine LX10_judgeSteps hv117 R sl1A sl2A (mg_A (t := 7) R rfl rfl) rfl rfl (fun S118 R118 F118 => ?_)
                        obtain ⟨rfl, rfl⟩ := mRW h
                        exact k _ R118 F118
                    · refine mIf h (by rw [show gEntry_kind S (α l1A) = V.fI l1A 0 from (mg_I (i := l1A) R (mO3 sl1A) rfl 0)]) (fun c21 h => ?_) (fun c21 h => ?_)
                      · refine mIf h Iff.rfl (fun c22 h => ?_) (fun c22 h => ?_)
                        · obtain ⟨v124, V125, hv124, h⟩ := mBW_some h
                          refine LX6_judgeLetters hv124 R sl1A sl2A (mg_A (t := 8) R rfl rfl) rfl rfl (fun S125 R125 F125 => ?_)
                          obtain ⟨rfl, rfl⟩ := mRW h
                          exact k _ R125 F125
                        · obtain ⟨v129, V130, hv129, h⟩ := mBW_some h
                          refine LX6_judgeLikeness hv129 R sl1A sl2A (mg_A (t := 8) R rfl rfl) rfl rfl (fun S130 R130 F130 => ?_)
                          obtain ⟨rfl, rfl⟩ := mRW h
                          exact k _ R130 F130
                      · refine mIf h Iff.rfl (fun c23 h => ?_) (fun c23 h => ?_)
                        · obtain ⟨v135, V136, hv135, h⟩ := mBW_some h
                          refine LX6_judgeGame hv135 R sl1A sl2A (mg_A (t := 8) R rfl rfl) rfl rfl rfl (fun S136 R136 F136 => ?_)
                          obtain ⟨rfl, rfl⟩ := mRW h
                          exact k _ R136 F136
                        · obtain ⟨v140, V141, hv140, h⟩ := mBW_some h
                          refine LX6_judgeGame hv140 R sl1A sl2A (mg_A (t := 8) R rfl rfl) rfl rfl rfl (fun S141 R141 F141 => ?_)
                          obtain ⟨rfl, rfl⟩ := mRW h
                          exact k _ R141 F141
def mX8_solveRoots_b0 (F : Nat) (rec : Nat → (Nat → Nat) → Nat → Int32 → mV → Option (Unit × (Nat → Nat) × mV)) (Ln : Nat → Nat) (l1A : Nat) (l4I : Int32) (V : mV) : Option (Unit × (Nat → Nat) × mV) :=
  (if ((2 : Int32) * (V.fI 6 8)) ≤ l4I then some ((), Ln, V) else (mBN (mX8_signInRow F (l4I) V) fun v2 => (mBA (mX9_add F Ln (l1A + 2) (v2) V) fun v7 L8 V8 => (mLt (l4I + (1 : Int32)) fun x12 => (rec 0 L8 l1A (x12) V8)))))
def mX8_solveRoots_go (F : Nat) : Nat → Nat → (Nat → Nat) → Nat → Int32 → mV → Option (Unit × (Nat → Nat) × mV)
  | 0, _, _, _, _, _ => none
  | k' + 1, lab, Ln, l1A, l4I, V => if lab = 0 then mX8_solveRoots_b0 F (mX8_solveRoots_go F k') Ln l1A l4I V else none
def mX8_solveRoots_s (F : Nat) (rec : Nat → (Nat → Nat) → Nat → Int32 → mV → Option (Unit × (Nat → Nat) × mV)) (Ln : Nat → Nat) (l1A : Nat) (V : mV) : Option (Unit × (Nat → Nat) × mV) :=
  (mBW (mX8_buildChain F l1A V) fun v13 V14 => (mBN (mX8_rootsOfPart F ((0 : Int32)) ((0 : Int32)) V14) fun v18 => (if v18 < (V14.fI l1A 8) then (mBW (mX3_tell F l1A ((0 : Int32)) (v18) V14) fun v24 V25 => (rec 0 Ln l1A ((0 : Int32)) V25)) else (mBW (mX3_tell F l1A ((1 : Int32)) (v18) V14) fun v29 V30 => (mBA (mX8_writeParts F 48 Ln ((0 : Int32)) ((0 : Int32)) (l1A + 2) V30) fun v34 L35 V35 => some ((), L35, V35))))))
def mX8_solveRoots (F : Nat) (Ln : Nat → Nat) (l1A : Nat) (V : mV) : Option (Unit × (Nat → Nat) × mV) := mX8_solveRoots_s F (mX8_solveRoots_go F F) Ln l1A V
set_option maxHeartbeats 4000000 in
set_option maxRecDepth 100000 in
theorem MX8_solveRoots_go {F : Nat} {v : Unit} {Ln1 : Nat → Nat} {V1 : mV} : ∀ k' : Nat, (∀ (l1A : Nat) (l4I : Int32) (Ln : Nat → Nat) (V : mV), mX8_solveRoots_go F k' 0 Ln l1A l4I V = some (v, Ln1, V1) → mP Ln1 ≤ mP Ln) := by
  intro k'
  induction k' with
  | zero => exact (fun _ _ _ _ h => by cases h)
  | succ k' ihM =>
    skip
    intro l1A l4I Ln V h
    rw [mX8_solveRoots_go, if_pos rfl] at h
    unfold mX8_solveRoots_b0 at h
    rcases mIf_some h with ⟨_, h⟩ | ⟨_, h⟩
    · cases h
      exact Nat.le_refl _
    · obtain ⟨_, _, h⟩ := mBN_some h
      obtain ⟨_, _, _, z1, h⟩ := mBA_some h
      refine Nat.le_trans ?_ (MX9_add z1)
      obtain ⟨_, _, h⟩ := mLt_some h
      exact ihM _ _ _ _ h
set_option maxHeartbeats 4000000 in
set_option maxRecDepth 100000 in
theorem MX8_solveRoots {F : Nat} {Ln Ln1 : Nat → Nat} {V V1 : mV} {v : Unit} {l1A : Nat} (h : mX8_solveRoots F Ln l1A V = some (v, Ln1, V1)) : mP Ln1 ≤ mP Ln := by
  have ihM := MX8_solveRoots_go (F := F) (v := v) (Ln1 := Ln1) (V1 := V1) F
  unfold mX8_solveRoots mX8_solveRoots_s at h
  obtain ⟨_, _, _, h⟩ := mBW_some h
  obtain ⟨_, _, h⟩ := mBN_some h
  rcases mIf_some h with ⟨_, h⟩ | ⟨_, h⟩
  · obtain ⟨_, _, _, h⟩ := mBW_some h
    exact ihM _ _ _ _ h
  · obtain ⟨_, _, _, h⟩ := mBW_some h
    obtain ⟨_, _, _, z2, h⟩ := mBA_some h
    refine Nat.le_trans ?_ (MX8_writeParts z2)
    cases h
    exact Nat.le_refl _
set_option maxHeartbeats 4000000 in
set_option maxRecDepth 100000 in
theorem LX8_solveRoots_go {α : Nat → Nat} {k0 n0 : Nat} {F : Nat} {v : Unit} {Ln1 : Nat → Nat} {V1 : mV} {Φ : (Unit → wPS → Prop)} : ∀ k' : Nat, (∀ (l1A : Nat) (l4I : Int32) (S : wPS) (V : mV) (Ln : Nat → Nat) (c s : Nat), mRel α S Ln V → mK l1A = 3 → mX8_solveRoots_go F k' 0 Ln l1A l4I V = some (v, Ln1, V1) → c + (mP Ln - mP Ln1) / 16 ≤ k0 → s + (mP Ln - mP Ln1) ≤ n0 → (∀ S1, mRel α S1 Ln1 V1 → mFr α S S1 → Φ v S1) → rX8_solveRoots_go F k0 n0 k' 0 c s (α 6) (α l1A) l4I S Φ) := by
  intro k'
  induction k' with
  | zero => exact (fun _ _ _ _ _ _ _ _ _ h _ _ _ => by cases h)
  | succ k' ih =>
    have ihM := MX8_solveRoots_go (F := F) (v := v) (Ln1 := Ln1) (V1 := V1) k'
    intro l1A l4I S V Ln c s R sl1A h hk hn k
    rw [mX8_solveRoots_go, if_pos rfl] at h
    rw [rX8_solveRoots_go, if_pos rfl]
    unfold mX8_solveRoots_b0 at h
    unfold rX8_solveRoots_b0
    refine mIf h (by rw [show gNumbers_chainCount S (α 6) = V.fI 6 8 from (mg_I (i := 6) R (by decide) rfl 8)]) (fun c3 h => ?_) (fun c3 h => ?_)
    · obtain ⟨rfl, rfl, rfl⟩ := mRA3 h
      exact k _ R mFr.rf
    · obtain ⟨v2, hv2, h⟩ := mBN_some h
      refine LX8_signInRow hv2 R rfl rfl ?_
      obtain ⟨v7, L8, V8, hv7, h⟩ := mBA_some h
      have mv7 : mP L8 ≤ mP Ln := MX9_add hv7
      have qv7 : mP Ln1 ≤ mP L8 := by
        obtain ⟨_, _, h⟩ := mLt_some h
        exact ihM _ _ _ _ h
      refine ⟨(mP Ln - mP L8) / 16, mP Ln - mP L8, by omega, by omega, ?_⟩
      refine LX9_add hv7 R (mKe2 sl1A) (mg_A (t := (l1A + 2)) R (mRe sl1A rfl) rfl) rfl (by omega) (by omega) (fun S8 R8 F8 => ?_)
      refine mLet h rfl (fun x12 ex12 h => ?_)
      exact ih _ _ _ _ _ _ _ R8 sl1A h (by omega) (by omega) (fun S1 R1 F1 => k S1 R1 (F8.tr F1))
set_option maxHeartbeats 4000000 in
set_option maxRecDepth 100000 in
theorem LX8_solveRoots {α : Nat → Nat} {F : Nat} {S : wPS} {Ln Ln1 : Nat → Nat} {V V1 : mV} {v : Unit} {Φ : (Unit → wPS → Prop)} {l0Ax : Nat} {l1Ax : Nat} {l1A : Nat} {k0 n0 : Nat} (h : mX8_solveRoots F Ln l1A V = some (v, Ln1, V1)) (R : mRel α S Ln V) (sl1A : mK l1A = 3) (el0A : l0Ax = α 6) (el1A : l1Ax = α l1A) (hk : (mP Ln - mP Ln1) / 16 ≤ k0) (hn : mP Ln - mP Ln1 ≤ n0) (k : (∀ S1, mRel α S1 Ln1 V1 → mFr α S S1 → Φ v S1)) : rX8_solveRoots F k0 n0 l0Ax l1Ax S Φ := by
  have el0A := el0A.symm
  subst el0A
  have el1A := el1A.symm
  subst el1A
  have ih := LX8_solveRoots_go  (α := α) (F := F) (v := v) (k0 := k0) (n0 := n0) (Ln1 := Ln1) (Φ := Φ) (V1 := V1) F
  have ihM := MX8_solveRoots_go (F := F) (v := v) (Ln1 := Ln1) (V1 := V1) F
  unfold mX8_solveRoots mX8_solveRoots_s at h
  unfold rX8_solveRoots rX8_solveRoots_s
  obtain ⟨v13, V14, hv13, h⟩ := mBW_some h
  refine LX8_buildChain hv13 R sl1A rfl rfl (fun S14 R14 F14 => ?_)
  obtain ⟨v18, hv18, h⟩ := mBN_some h
  refine LX8_rootsOfPart hv18 R14 rfl rfl rfl ?_
  refine mIf h (by rw [show gEntry_boundNow S14 (α l1A) = V14.fI l1A 8 from (mg_I (i := l1A) R14 (mO3 sl1A) rfl 8)]) (fun c4 h => ?_) (fun c4 h => ?_)
  · obtain ⟨v24, V25, hv24, h⟩ := mBW_some h
    refine LX3_tell hv24 R14 sl1A rfl rfl rfl (fun S25 R25 F25 => ?_)
    exact ih _ _ _ _ _ _ _ R25 sl1A h (by omega) (by omega) (fun S1 R1 F1 => k S1 R1 (F14.tr (F25.tr F1)))
  · obtain ⟨v29, V30, hv29, h⟩ := mBW_some h
    refine LX3_tell hv29 R14 sl1A rfl rfl rfl (fun S30 R30 F30 => ?_)
    obtain ⟨v34, L35, V35, hv34, h⟩ := mBA_some h
    have mv34 : mP L35 ≤ mP Ln := MX8_writeParts hv34
    have qv34 : mP Ln1 ≤ mP L35 := by
      cases h
      exact Nat.le_refl _
    refine ⟨(mP Ln - mP L35) / 16, mP Ln - mP L35, by omega, by omega, ?_⟩
    refine LX8_writeParts hv34 R30 (mKe2 sl1A) rfl rfl rfl (mg_A (t := (l1A + 2)) R30 (mRe sl1A rfl) rfl) (by omega) (by omega) (fun S35 R35 F35 => ?_)
    obtain ⟨rfl, rfl, rfl⟩ := mRA3 h
    exact k _ R35 (F14.tr (F30.tr F35))
end
