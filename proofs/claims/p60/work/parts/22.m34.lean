/-! LIFTED BY PROGRAM (lift.py): X11_refreshed, X11_setBound, X11_lean. -/
section
def mX11_refreshed_b0 (F : Nat) (rec : Nat → (Nat → Nat) → Nat → Int32 → Int32 → Int32 → mV → Option ((String ⊕ Nat) × (Nat → Nat) × mV)) (Ln : Nat → Nat) (l2A : Nat) (l3I : Int32) (l4I : Int32) (V : mV) : Option ((String ⊕ Nat) × (Nat → Nat) × mV) :=
  (if l4I < 0 then (mLt (l3I - (1 : Int32)) fun x2 => (rec 1 Ln l2A 0 0 (x2) V)) else (if (12 : Int32) ≤ l3I then (mLt (l3I - (1 : Int32)) fun x4 => (rec 1 Ln l2A 0 0 (x4) V)) else (if l3I < 0 ∨ 12 ≤ (l3I).toNatClampNeg then none else (mLt (mI V 11 (l3I) (l4I)) fun V6 => (mLt (l3I + (1 : Int32)) fun x7 => (if l4I < 0 ∨ 12 ≤ (l4I).toNatClampNeg then none else (mLt (V6.fI (256 + 8 * (l4I).toNatClampNeg) 3) fun x10 => (rec 0 Ln l2A (x7) (x10) 0 V6))))))))
def mX11_refreshed_b1 (F : Nat) (rec : Nat → (Nat → Nat) → Nat → Int32 → Int32 → Int32 → mV → Option ((String ⊕ Nat) × (Nat → Nat) × mV)) (Ln : Nat → Nat) (l2A : Nat) (l5I : Int32) (V : mV) : Option ((String ⊕ Nat) × (Nat → Nat) × mV) :=
  (if l5I < 0 then some ((.inr l2A), Ln, V) else (if l5I < 0 ∨ 12 ≤ (l5I).toNatClampNeg then none else (if (V.rI 11 (l5I).toNatClampNeg) < 0 ∨ 12 ≤ ((V.rI 11 (l5I).toNatClampNeg)).toNatClampNeg then none else (mLt (mF V (256 + 8 * ((V.rI 11 (l5I).toNatClampNeg)).toNatClampNeg) 8 ((V.fI (256 + 8 * ((V.rI 11 (l5I).toNatClampNeg)).toNatClampNeg) 2))) fun V15 => (if (V15.fI (256 + 8 * ((V.rI 11 (l5I).toNatClampNeg)).toNatClampNeg) 3) < 0 then (if (V15.fI (256 + 8 * ((V.rI 11 (l5I).toNatClampNeg)).toNatClampNeg) 9) = 0 then (mBA (mX4_solve F Ln (256 + 8 * ((V.rI 11 (l5I).toNatClampNeg)).toNatClampNeg) V15) fun v18 L19 V19 => (mLt (l5I + (-1 : Int32)) fun x23 => (rec 1 L19 l2A 0 0 (x23) V19))) else (if (V15.fI (256 + 8 * ((V.rI 11 (l5I).toNatClampNeg)).toNatClampNeg) 10) = (V15.fI (256 + 8 * ((V.rI 11 (l5I).toNatClampNeg)).toNatClampNeg) 8) then (mLt (l5I + (-1 : Int32)) fun x25 => (rec 1 Ln l2A 0 0 (x25) V15)) else (mBA (mX4_solve F Ln (256 + 8 * ((V.rI 11 (l5I).toNatClampNeg)).toNatClampNeg) V15) fun v26 L27 V27 => (mLt (l5I + (-1 : Int32)) fun x31 => (rec 1 L27 l2A 0 0 (x31) V27))))) else (if (V15.fI (256 + 8 * ((V.rI 11 (l5I).toNatClampNeg)).toNatClampNeg) 3) < 0 ∨ 12 ≤ ((V15.fI (256 + 8 * ((V.rI 11 (l5I).toNatClampNeg)).toNatClampNeg) 3)).toNatClampNeg then none else (mLt ((V15.fI (256 + 8 * ((V15.fI (256 + 8 * ((V.rI 11 (l5I).toNatClampNeg)).toNatClampNeg) 3)).toNatClampNeg) 12) + (V15.fI (256 + 8 * ((V.rI 11 (l5I).toNatClampNeg)).toNatClampNeg) 4)) fun x34 => (if (V15.fI (256 + 8 * ((V.rI 11 (l5I).toNatClampNeg)).toNatClampNeg) 0) < 0 ∨ 12 ≤ ((V15.fI (256 + 8 * ((V.rI 11 (l5I).toNatClampNeg)).toNatClampNeg) 0)).toNatClampNeg then none else (if (V15.fI (256 + 8 * ((V.rI 11 (l5I).toNatClampNeg)).toNatClampNeg) 0) < 0 ∨ 12 ≤ ((V15.fI (256 + 8 * ((V.rI 11 (l5I).toNatClampNeg)).toNatClampNeg) 0)).toNatClampNeg then none else (mLt (mF V15 (256 + 8 * ((V.rI 11 (l5I).toNatClampNeg)).toNatClampNeg) 8 ((if (wkTab 2 ((V15.fI (256 + 8 * ((V.rI 11 (l5I).toNatClampNeg)).toNatClampNeg) 0)).toNatClampNeg) < (if x34 < (wkTab 3 ((V15.fI (256 + 8 * ((V.rI 11 (l5I).toNatClampNeg)).toNatClampNeg) 0)).toNatClampNeg) then x34 else (wkTab 3 ((V15.fI (256 + 8 * ((V.rI 11 (l5I).toNatClampNeg)).toNatClampNeg) 0)).toNatClampNeg)) then (if x34 < (wkTab 3 ((V15.fI (256 + 8 * ((V.rI 11 (l5I).toNatClampNeg)).toNatClampNeg) 0)).toNatClampNeg) then x34 else (wkTab 3 ((V15.fI (256 + 8 * ((V.rI 11 (l5I).toNatClampNeg)).toNatClampNeg) 0)).toNatClampNeg)) else (wkTab 2 ((V15.fI (256 + 8 * ((V.rI 11 (l5I).toNatClampNeg)).toNatClampNeg) 0)).toNatClampNeg)))) fun V37 => (if (V37.fI (256 + 8 * ((V.rI 11 (l5I).toNatClampNeg)).toNatClampNeg) 9) = 0 then (mBA (mX4_solve F Ln (256 + 8 * ((V.rI 11 (l5I).toNatClampNeg)).toNatClampNeg) V37) fun v39 L40 V40 => (mLt (l5I + (-1 : Int32)) fun x44 => (rec 1 L40 l2A 0 0 (x44) V40))) else (if (V37.fI (256 + 8 * ((V.rI 11 (l5I).toNatClampNeg)).toNatClampNeg) 10) = (V37.fI (256 + 8 * ((V.rI 11 (l5I).toNatClampNeg)).toNatClampNeg) 8) then (mLt (l5I + (-1 : Int32)) fun x46 => (rec 1 Ln l2A 0 0 (x46) V37)) else (mBA (mX4_solve F Ln (256 + 8 * ((V.rI 11 (l5I).toNatClampNeg)).toNatClampNeg) V37) fun v47 L48 V48 => (mLt (l5I + (-1 : Int32)) fun x52 => (rec 1 L48 l2A 0 0 (x52) V48)))))))))))))))
def mX11_refreshed_go (F : Nat) : Nat → Nat → (Nat → Nat) → Nat → Int32 → Int32 → Int32 → mV → Option ((String ⊕ Nat) × (Nat → Nat) × mV)
  | 0, _, _, _, _, _, _, _ => none
  | k' + 1, lab, Ln, l2A, l3I, l4I, l5I, V => if lab = 0 then mX11_refreshed_b0 F (mX11_refreshed_go F k') Ln l2A l3I l4I V else if lab = 1 then mX11_refreshed_b1 F (mX11_refreshed_go F k') Ln l2A l5I V else none
def mX11_refreshed_s (F : Nat) (rec : Nat → (Nat → Nat) → Nat → Int32 → Int32 → Int32 → mV → Option ((String ⊕ Nat) × (Nat → Nat) × mV)) (Ln : Nat → Nat) (l1I : Int32) (V : mV) : Option ((String ⊕ Nat) × (Nat → Nat) × mV) :=
  (mBT (mX11_entryAt F Ln (l1I) V) (fun v53 L54 V54 => (rec 0 L54 v53 ((0 : Int32)) (l1I) 0 V54)) (fun E0 L0 V0 => some (.inl E0, L0, V0)))
def mX11_refreshed (F : Nat) (Ln : Nat → Nat) (l1I : Int32) (V : mV) : Option ((String ⊕ Nat) × (Nat → Nat) × mV) := mX11_refreshed_s F (mX11_refreshed_go F F) Ln l1I V
set_option maxHeartbeats 4000000 in
set_option maxRecDepth 100000 in
theorem MX11_refreshed_go {F : Nat} {v : (String ⊕ Nat)} {Ln1 : Nat → Nat} {V1 : mV} : ∀ k' : Nat, (∀ (l2A : Nat) (l3I : Int32) (l4I : Int32) (Ln : Nat → Nat) (V : mV), mX11_refreshed_go F k' 0 Ln l2A l3I l4I 0 V = some (v, Ln1, V1) → mP Ln1 ≤ mP Ln) ∧ (∀ (l2A : Nat) (l5I : Int32) (Ln : Nat → Nat) (V : mV), mX11_refreshed_go F k' 1 Ln l2A 0 0 l5I V = some (v, Ln1, V1) → mP Ln1 ≤ mP Ln) := by
  intro k'
  induction k' with
  | zero => exact ⟨(fun _ _ _ _ _ h => by cases h), (fun _ _ _ _ h => by cases h)⟩
  | succ k' ihM =>
    refine ⟨?_, ?_⟩
    · intro l2A l3I l4I Ln V h
      rw [mX11_refreshed_go, if_pos rfl] at h
      unfold mX11_refreshed_b0 at h
      rcases mIf_some h with ⟨_, h⟩ | ⟨_, h⟩
      · obtain ⟨_, _, h⟩ := mLt_some h
        exact ihM.2 _ _ _ _ h
      · rcases mIf_some h with ⟨_, h⟩ | ⟨_, h⟩
        · obtain ⟨_, _, h⟩ := mLt_some h
          exact ihM.2 _ _ _ _ h
        · obtain ⟨_, h⟩ := mGd_some h
          obtain ⟨_, _, h⟩ := mLt_some h
          obtain ⟨_, _, h⟩ := mLt_some h
          obtain ⟨_, h⟩ := mGd_some h
          obtain ⟨_, _, h⟩ := mLt_some h
          exact ihM.1 _ _ _ _ _ h
    · intro l2A l5I Ln V h
      rw [mX11_refreshed_go, if_neg (by decide), if_pos rfl] at h
      unfold mX11_refreshed_b1 at h
      rcases mIf_some h with ⟨_, h⟩ | ⟨_, h⟩
      · cases h
        exact Nat.le_refl _
      · obtain ⟨_, h⟩ := mGd_some h
        obtain ⟨_, h⟩ := mGd_some h
        obtain ⟨_, _, h⟩ := mLt_some h
        rcases mIf_some h with ⟨_, h⟩ | ⟨_, h⟩
        · rcases mIf_some h with ⟨_, h⟩ | ⟨_, h⟩
          · obtain ⟨_, _, _, z1, h⟩ := mBA_some h
            refine Nat.le_trans ?_ (MX4_solve z1)
            obtain ⟨_, _, h⟩ := mLt_some h
            exact ihM.2 _ _ _ _ h
          · rcases mIf_some h with ⟨_, h⟩ | ⟨_, h⟩
            · obtain ⟨_, _, h⟩ := mLt_some h
              exact ihM.2 _ _ _ _ h
            · obtain ⟨_, _, _, z2, h⟩ := mBA_some h
              refine Nat.le_trans ?_ (MX4_solve z2)
              obtain ⟨_, _, h⟩ := mLt_some h
              exact ihM.2 _ _ _ _ h
        · obtain ⟨_, h⟩ := mGd_some h
          obtain ⟨_, _, h⟩ := mLt_some h
          obtain ⟨_, h⟩ := mGd_some h
          obtain ⟨_, h⟩ := mGd_some h
          obtain ⟨_, _, h⟩ := mLt_some h
          rcases mIf_some h with ⟨_, h⟩ | ⟨_, h⟩
          · obtain ⟨_, _, _, z3, h⟩ := mBA_some h
            refine Nat.le_trans ?_ (MX4_solve z3)
            obtain ⟨_, _, h⟩ := mLt_some h
            exact ihM.2 _ _ _ _ h
          · rcases mIf_some h with ⟨_, h⟩ | ⟨_, h⟩
            · obtain ⟨_, _, h⟩ := mLt_some h
              exact ihM.2 _ _ _ _ h
            · obtain ⟨_, _, _, z4, h⟩ := mBA_some h
              refine Nat.le_trans ?_ (MX4_solve z4)
              obtain ⟨_, _, h⟩ := mLt_some h
              exact ihM.2 _ _ _ _ h
set_option maxHeartbeats 4000000 in
set_option maxRecDepth 100000 in
theorem MX11_refreshed {F : Nat} {Ln Ln1 : Nat → Nat} {V V1 : mV} {v : (String ⊕ Nat)} {l1I : Int32} (h : mX11_refreshed F Ln l1I V = some (v, Ln1, V1)) : mP Ln1 ≤ mP Ln := by
  have ihM := MX11_refreshed_go (F := F) (v := v) (Ln1 := Ln1) (V1 := V1) F
  unfold mX11_refreshed mX11_refreshed_s at h
  rcases mBT_some h with ⟨_, _, _, z5, h⟩ | ⟨_, _, _, z5, h⟩
  · cases h
    exact MX11_entryAt z5
  · refine Nat.le_trans ?_ (MX11_entryAt z5)
    exact ihM.1 _ _ _ _ _ h
set_option maxHeartbeats 4000000 in
set_option maxRecDepth 100000 in
theorem LX11_refreshed_go {α : Nat → Nat} {k0 n0 : Nat} {F : Nat} {v : (String ⊕ Nat)} {Ln1 : Nat → Nat} {V1 : mV} {Φ : (Nat → wPS → Prop)} {Ψ : String → wPS → Prop} : ∀ k' : Nat, (∀ (l2A : Nat) (l3I : Int32) (l4I : Int32) (S : wPS) (V : mV) (Ln : Nat → Nat) (c s : Nat), mRel α S Ln V → mK l2A = 3 → mX11_refreshed_go F k' 0 Ln l2A l3I l4I 0 V = some (v, Ln1, V1) → c + (mP Ln - mP Ln1) / 16 ≤ k0 → s + (mP Ln - mP Ln1) ≤ n0 → (∀ S1, mRel α S1 Ln1 V1 → mFr α S S1 → mOutA α Φ Ψ v S1) → rX11_refreshed_go F k0 n0 k' 0 c s (α 0) (α l2A) l3I l4I 0 S Φ Ψ) ∧ (∀ (l2A : Nat) (l5I : Int32) (S : wPS) (V : mV) (Ln : Nat → Nat) (c s : Nat), mRel α S Ln V → mK l2A = 3 → mX11_refreshed_go F k' 1 Ln l2A 0 0 l5I V = some (v, Ln1, V1) → c + (mP Ln - mP Ln1) / 16 ≤ k0 → s + (mP Ln - mP Ln1) ≤ n0 → (∀ S1, mRel α S1 Ln1 V1 → mFr α S S1 → mOutA α Φ Ψ v S1) → rX11_refreshed_go F k0 n0 k' 1 c s (α 0) (α l2A) 0 0 l5I S Φ Ψ) := by
  intro k'
  induction k' with
  | zero => exact ⟨(fun _ _ _ _ _ _ _ _ _ _ h _ _ _ => by cases h), (fun _ _ _ _ _ _ _ _ _ h _ _ _ => by cases h)⟩
  | succ k' ih =>
    have ihM := MX11_refreshed_go (F := F) (v := v) (Ln1 := Ln1) (V1 := V1) k'
    refine ⟨?_, ?_⟩
    · intro l2A l3I l4I S V Ln c s R sl2A h hk hn k
      rw [mX11_refreshed_go, if_pos rfl] at h
      rw [rX11_refreshed_go, if_pos rfl]
      unfold mX11_refreshed_b0 at h
      unfold rX11_refreshed_b0
      refine mIf h Iff.rfl (fun c6 h => ?_) (fun c6 h => ?_)
      · refine mLet h rfl (fun x2 ex2 h => ?_)
        exact ih.2 _ _ _ _ _ _ _ R sl2A h (by omega) (by omega) (fun S1 R1 F1 => k S1 R1 F1)
      · refine mIf h Iff.rfl (fun c7 h => ?_) (fun c7 h => ?_)
        · refine mLet h rfl (fun x4 ex4 h => ?_)
          exact ih.2 _ _ _ _ _ _ _ R sl2A h (by omega) (by omega) (fun S1 R1 F1 => k S1 R1 F1)
        · refine mGd h (by rw [show S.len (wkAd (gWitnessworks_leaningChain S (α 0))) = 12 from (mg_len (i := 11) R (mA13 rfl) (mg_A (t := 11) R rfl rfl))]) (fun c8 h => ?_)
          obtain ⟨V6, eV6, h⟩ := mLt_some h
          refine mU_I eV6 R (mA13 rfl) (mg_A (t := 11) R rfl rfl) rfl rfl (fun S6 R6 F6 => ?_)
          refine mLet h rfl (fun x7 ex7 h => ?_)
          refine mGd h (by rw [show S6.len (wkAd (gWitnessworks_book S6 (α 0))) = 12 from (mg_len (i := 10) R6 (mAr (by decide)) (mg_A (t := 10) R6 rfl rfl))]) (fun c9 h => ?_)
          refine mLet h (by rw [show gEntry_leaning S6 (wkAd (S6.rA (wkAd (gWitnessworks_book S6 (α 0))) (l4I).toNatClampNeg)) = V6.fI (256 + 8 * (l4I).toNatClampNeg) 3 from (mg_I (i := (256 + 8 * (l4I).toNatClampNeg)) R6 (mO3 (mKA10 (Nat.lt_of_not_le (fun z => c9 (Or.inr z))))) (mg_RA R6 (mRA10 (Nat.lt_of_not_le (fun z => c9 (Or.inr z)))) (mg_A (t := 10) R6 rfl rfl) rfl) 3)]) (fun x10 ex10 h => ?_)
          exact ih.1 _ _ _ _ _ _ _ _ R6 sl2A h (by omega) (by omega) (fun S1 R1 F1 => k S1 R1 (F6.tr F1))
    · intro l2A l5I S V Ln c s R sl2A h hk hn k
      rw [mX11_refreshed_go, if_neg (by decide), if_pos rfl] at h
      rw [rX11_refreshed_go, if_neg (by decide), if_pos rfl]
      unfold mX11_refreshed_b1 at h
      unfold rX11_refreshed_b1
      refine mIf h Iff.rfl (fun c10 h => ?_) (fun c10 h => ?_)
      · obtain ⟨rfl, rfl, rfl⟩ := mRA3 h
        exact k _ R mFr.rf sl2A
      · refine mGd h (by rw [show S.len (wkAd (gWitnessworks_leaningChain S (α 0))) = 12 from (mg_len (i := 11) R (mA13 rfl) (mg_A (t := 11) R rfl rfl))]) (fun c11 h => ?_)
        refine mGd h (by rw [show S.rI (wkAd (gWitnessworks_leaningChain S (α 0))) (l5I).toNatClampNeg = V.rI 11 (l5I).toNatClampNeg from (mg_rI (i := 11) R (mA13 rfl) (mg_A (t := 11) R rfl rfl) rfl), show S.len (wkAd (gWitnessworks_book S (α 0))) = 12 from (mg_len (i := 10) R (mAr (by decide)) (mg_A (t := 10) R rfl rfl))]) (fun c12 h => ?_)
        obtain ⟨V15, eV15, h⟩ := mLt_some h
        refine mU_F eV15 R (mO3 (mKA10 (Nat.lt_of_not_le (fun z => c12 (Or.inr z))))) (mg_RA R (mRA10 (Nat.lt_of_not_le (fun z => c12 (Or.inr z)))) (mg_A (t := 10) R rfl rfl) (by rw [show S.rI (wkAd (gWitnessworks_leaningChain S (α 0))) (l5I).toNatClampNeg = V.rI 11 (l5I).toNatClampNeg from (mg_rI (i := 11) R (mA13 rfl) (mg_A (t := 11) R rfl rfl) rfl)])) (by rw [show gEntry_bound S (wkAd (S.rA (wkAd (gWitnessworks_book S (α 0))) ((S.rI (wkAd (gWitnessworks_leaningChain S (α 0))) (l5I).toNatClampNeg)).toNatClampNeg)) = V.fI (256 + 8 * ((V.rI 11 (l5I).toNatClampNeg)).toNatClampNeg) 2 from (mg_I (i := (256 + 8 * ((V.rI 11 (l5I).toNatClampNeg)).toNatClampNeg)) R (mO3 (mKA10 (Nat.lt_of_not_le (fun z => c12 (Or.inr z))))) (mg_RA R (mRA10 (Nat.lt_of_not_le (fun z => c12 (Or.inr z)))) (mg_A (t := 10) R rfl rfl) (by rw [show S.rI (wkAd (gWitnessworks_leaningChain S (α 0))) (l5I).toNatClampNeg = V.rI 11 (l5I).toNatClampNeg from (mg_rI (i := 11) R (mA13 rfl) (mg_A (t := 11) R rfl rfl) rfl)])) 2)]) (fun S15 R15 F15 => ?_)
        refine mIf h (by rw [show gEntry_leaning S15 (wkAd (S.rA (wkAd (gWitnessworks_book S (α 0))) ((S.rI (wkAd (gWitnessworks_leaningChain S (α 0))) (l5I).toNatClampNeg)).toNatClampNeg)) = V15.fI (256 + 8 * ((V.rI 11 (l5I).toNatClampNeg)).toNatClampNeg) 3 from (mg_I (i := (256 + 8 * ((V.rI 11 (l5I).toNatClampNeg)).toNatClampNeg)) R15 (mO3 (mKA10 (Nat.lt_of_not_le (fun z => c12 (Or.inr z))))) (mg_RA R (mRA10 (Nat.lt_of_not_le (fun z => c12 (Or.inr z)))) (mg_A (t := 10) R rfl rfl) (by rw [show S.rI (wkAd (gWitnessworks_leaningChain S (α 0))) (l5I).toNatClampNeg = V.rI 11 (l5I).toNatClampNeg from (mg_rI (i := 11) R (mA13 rfl) (mg_A (t := 11) R rfl rfl) rfl)])) 3)]) (fun c13 h => ?_) (fun c13 h => ?_)
        · refine mIf h (by rw [show gEntry_isSolved S15 (wkAd (S.rA (wkAd (gWitnessworks_book S (α 0))) ((S.rI (wkAd (gWitnessworks_leaningChain S (α 0))) (l5I).toNatClampNeg)).toNatClampNeg)) = V15.fI (256 + 8 * ((V.rI 11 (l5I).toNatClampNeg)).toNatClampNeg) 9 from (mg_I (i := (256 + 8 * ((V.rI 11 (l5I).toNatClampNeg)).toNatClampNeg)) R15 (mO3 (mKA10 (Nat.lt_of_not_le (fun z => c12 (Or.inr z))))) (mg_RA R (mRA10 (Nat.lt_of_not_le (fun z => c12 (Or.inr z)))) (mg_A (t := 10) R rfl rfl) (by rw [show S.rI (wkAd (gWitnessworks_leaningChain S (α 0))) (l5I).toNatClampNeg = V.rI 11 (l5I).toNatClampNeg from (mg_rI (i := 11) R (mA13 rfl) (mg_A (t := 11) R rfl rfl) rfl)])) 9)]) (fun c14 h => ?_) (fun c14 h => ?_)
          · obtain ⟨v18, L19, V19, hv18, h⟩ := mBA_some h
            have mv18 : mP L19 ≤ mP Ln := MX4_solve hv18
            have qv18 : mP Ln1 ≤ mP L19 := by
              obtain ⟨_, _, h⟩ := mLt_some h
              exact ihM.2 _ _ _ _ h
            refine ⟨(mP Ln - mP L19) / 16, mP Ln - mP L19, by omega, by omega, ?_⟩
            refine LX4_solve hv18 R15 (mKA10 (Nat.lt_of_not_le (fun z => c12 (Or.inr z)))) (mg_A (t := 1) R15 rfl rfl) (mg_RA R (mRA10 (Nat.lt_of_not_le (fun z => c12 (Or.inr z)))) (mg_A (t := 10) R rfl rfl) (by rw [show S.rI (wkAd (gWitnessworks_leaningChain S (α 0))) (l5I).toNatClampNeg = V.rI 11 (l5I).toNatClampNeg from (mg_rI (i := 11) R (mA13 rfl) (mg_A (t := 11) R rfl rfl) rfl)])) (by omega) (by omega) (fun S19 R19 F19 => ?_)
            refine mLet h rfl (fun x23 ex23 h => ?_)
            exact ih.2 _ _ _ _ _ _ _ R19 sl2A h (by omega) (by omega) (fun S1 R1 F1 => k S1 R1 (F15.tr (F19.tr F1)))
          · refine mIf h (by rw [show gEntry_solvedBound S15 (wkAd (S.rA (wkAd (gWitnessworks_book S (α 0))) ((S.rI (wkAd (gWitnessworks_leaningChain S (α 0))) (l5I).toNatClampNeg)).toNatClampNeg)) = V15.fI (256 + 8 * ((V.rI 11 (l5I).toNatClampNeg)).toNatClampNeg) 10 from (mg_I (i := (256 + 8 * ((V.rI 11 (l5I).toNatClampNeg)).toNatClampNeg)) R15 (mO3 (mKA10 (Nat.lt_of_not_le (fun z => c12 (Or.inr z))))) (mg_RA R (mRA10 (Nat.lt_of_not_le (fun z => c12 (Or.inr z)))) (mg_A (t := 10) R rfl rfl) (by rw [show S.rI (wkAd (gWitnessworks_leaningChain S (α 0))) (l5I).toNatClampNeg = V.rI 11 (l5I).toNatClampNeg from (mg_rI (i := 11) R (mA13 rfl) (mg_A (t := 11) R rfl rfl) rfl)])) 10), show gEntry_boundNow S15 (wkAd (S.rA (wkAd (gWitnessworks_book S (α 0))) ((S.rI (wkAd (gWitnessworks_leaningChain S (α 0))) (l5I).toNatClampNeg)).toNatClampNeg)) = V15.fI (256 + 8 * ((V.rI 11 (l5I).toNatClampNeg)).toNatClampNeg) 8 from (mg_I (i := (256 + 8 * ((V.rI 11 (l5I).toNatClampNeg)).toNatClampNeg)) R15 (mO3 (mKA10 (Nat.lt_of_not_le (fun z => c12 (Or.inr z))))) (mg_RA R (mRA10 (Nat.lt_of_not_le (fun z => c12 (Or.inr z)))) (mg_A (t := 10) R rfl rfl) (by rw [show S.rI (wkAd (gWitnessworks_leaningChain S (α 0))) (l5I).toNatClampNeg = V.rI 11 (l5I).toNatClampNeg from (mg_rI (i := 11) R (mA13 rfl) (mg_A (t := 11) R rfl rfl) rfl)])) 8)]) (fun c15 h => ?_) (fun c15 h => ?_)
            · refine mLet h rfl (fun x25 ex25 h => ?_)
              exact ih.2 _ _ _ _ _ _ _ R15 sl2A h (by omega) (by omega) (fun S1 R1 F1 => k S1 R1 (F15.tr F1))
            · obtain ⟨v26, L27, V27, hv26, h⟩ := mBA_some h
              have mv26 : mP L27 ≤ mP Ln := MX4_solve hv26
              have qv26 : mP Ln1 ≤ mP L27 := by
                obtain ⟨_, _, h⟩ := mLt_some h
                exact ihM.2 _ _ _ _ h
              refine ⟨(mP Ln - mP L27) / 16, mP Ln - mP L27, by omega, by omega, ?_⟩
              refine LX4_solve hv26 R15 (mKA10 (Nat.lt_of_not_le (fun z => c12 (Or.inr z)))) (mg_A (t := 1) R15 rfl rfl) (mg_RA R (mRA10 (Nat.lt_of_not_le (fun z => c12 (Or.inr z)))) (mg_A (t := 10) R rfl rfl) (by rw [show S.rI (wkAd (gWitnessworks_leaningChain S (α 0))) (l5I).toNatClampNeg = V.rI 11 (l5I).toNatClampNeg from (mg_rI (i := 11) R (mA13 rfl) (mg_A (t := 11) R rfl rfl) rfl)])) (by omega) (by omega) (fun S27 R27 F27 => ?_)
              refine mLet h rfl (fun x31 ex31 h => ?_)
              exact ih.2 _ _ _ _ _ _ _ R27 sl2A h (by omega) (by omega) (fun S1 R1 F1 => k S1 R1 (F15.tr (F27.tr F1)))
        · refine mGd h (by rw [show gEntry_leaning S15 (wkAd (S.rA (wkAd (gWitnessworks_book S (α 0))) ((S.rI (wkAd (gWitnessworks_leaningChain S (α 0))) (l5I).toNatClampNeg)).toNatClampNeg)) = V15.fI (256 + 8 * ((V.rI 11 (l5I).toNatClampNeg)).toNatClampNeg) 3 from (mg_I (i := (256 + 8 * ((V.rI 11 (l5I).toNatClampNeg)).toNatClampNeg)) R15 (mO3 (mKA10 (Nat.lt_of_not_le (fun z => c12 (Or.inr z))))) (mg_RA R (mRA10 (Nat.lt_of_not_le (fun z => c12 (Or.inr z)))) (mg_A (t := 10) R rfl rfl) (by rw [show S.rI (wkAd (gWitnessworks_leaningChain S (α 0))) (l5I).toNatClampNeg = V.rI 11 (l5I).toNatClampNeg from (mg_rI (i := 11) R (mA13 rfl) (mg_A (t := 11) R rfl rfl) rfl)])) 3), show S15.len (wkAd (gWitnessworks_book S15 (α 0))) = 12 from (mg_len (i := 10) R15 (mAr (by decide)) (mg_A (t := 10) R15 rfl rfl))]) (fun c16 h => ?_)
          refine mLet h (by rw [show gEntry_told S15 (wkAd (S15.rA (wkAd (gWitnessworks_book S15 (α 0))) ((gEntry_leaning S15 (wkAd (S.rA (wkAd (gWitnessworks_book S (α 0))) ((S.rI (wkAd (gWitnessworks_leaningChain S (α 0))) (l5I).toNatClampNeg)).toNatClampNeg)))).toNatClampNeg)) = V15.fI (256 + 8 * ((V15.fI (256 + 8 * ((V.rI 11 (l5I).toNatClampNeg)).toNatClampNeg) 3)).toNatClampNeg) 12 from (mg_I (i := (256 + 8 * ((V15.fI (256 + 8 * ((V.rI 11 (l5I).toNatClampNeg)).toNatClampNeg) 3)).toNatClampNeg)) R15 (mO3 (mKA10 (Nat.lt_of_not_le (fun z => c16 (Or.inr z))))) (mg_RA R15 (mRA10 (Nat.lt_of_not_le (fun z => c16 (Or.inr z)))) (mg_A (t := 10) R15 rfl rfl) (by rw [show gEntry_leaning S15 (wkAd (S.rA (wkAd (gWitnessworks_book S (α 0))) ((S.rI (wkAd (gWitnessworks_leaningChain S (α 0))) (l5I).toNatClampNeg)).toNatClampNeg)) = V15.fI (256 + 8 * ((V.rI 11 (l5I).toNatClampNeg)).toNatClampNeg) 3 from (mg_I (i := (256 + 8 * ((V.rI 11 (l5I).toNatClampNeg)).toNatClampNeg)) R15 (mO3 (mKA10 (Nat.lt_of_not_le (fun z => c12 (Or.inr z))))) (mg_RA R (mRA10 (Nat.lt_of_not_le (fun z => c12 (Or.inr z)))) (mg_A (t := 10) R rfl rfl) (by rw [show S.rI (wkAd (gWitnessworks_leaningChain S (α 0))) (l5I).toNatClampNeg = V.rI 11 (l5I).toNatClampNeg from (mg_rI (i := 11) R (mA13 rfl) (mg_A (t := 11) R rfl rfl) rfl)])) 3)])) 12), show gEntry_plus S15 (wkAd (S.rA (wkAd (gWitnessworks_book S (α 0))) ((S.rI (wkAd (gWitnessworks_leaningChain S (α 0))) (l5I).toNatClampNeg)).toNatClampNeg)) = V15.fI (256 + 8 * ((V.rI 11 (l5I).toNatClampNeg)).toNatClampNeg) 4 from (mg_I (i := (256 + 8 * ((V.rI 11 (l5I).toNatClampNeg)).toNatClampNeg)) R15 (mO3 (mKA10 (Nat.lt_of_not_le (fun z => c12 (Or.inr z))))) (mg_RA R (mRA10 (Nat.lt_of_not_le (fun z => c12 (Or.inr z)))) (mg_A (t := 10) R rfl rfl) (by rw [show S.rI (wkAd (gWitnessworks_leaningChain S (α 0))) (l5I).toNatClampNeg = V.rI 11 (l5I).toNatClampNeg from (mg_rI (i := 11) R (mA13 rfl) (mg_A (t := 11) R rfl rfl) rfl)])) 4)]) (fun x34 ex34 h => ?_)
          refine mGd h (by rw [show gEntry_kind S15 (wkAd (S.rA (wkAd (gWitnessworks_book S (α 0))) ((S.rI (wkAd (gWitnessworks_leaningChain S (α 0))) (l5I).toNatClampNeg)).toNatClampNeg)) = V15.fI (256 + 8 * ((V.rI 11 (l5I).toNatClampNeg)).toNatClampNeg) 0 from (mg_I (i := (256 + 8 * ((V.rI 11 (l5I).toNatClampNeg)).toNatClampNeg)) R15 (mO3 (mKA10 (Nat.lt_of_not_le (fun z => c12 (Or.inr z))))) (mg_RA R (mRA10 (Nat.lt_of_not_le (fun z => c12 (Or.inr z)))) (mg_A (t := 10) R rfl rfl) (by rw [show S.rI (wkAd (gWitnessworks_leaningChain S (α 0))) (l5I).toNatClampNeg = V.rI 11 (l5I).toNatClampNeg from (mg_rI (i := 11) R (mA13 rfl) (mg_A (t := 11) R rfl rfl) rfl)])) 0)]) (fun c17 h => ?_)
          refine mGd h (by rw [show gEntry_kind S15 (wkAd (S.rA (wkAd (gWitnessworks_book S (α 0))) ((S.rI (wkAd (gWitnessworks_leaningChain S (α 0))) (l5I).toNatClampNeg)).toNatClampNeg)) = V15.fI (256 + 8 * ((V.rI 11 (l5I).toNatClampNeg)).toNatClampNeg) 0 from (mg_I (i := (256 + 8 * ((V.rI 11 (l5I).toNatClampNeg)).toNatClampNeg)) R15 (mO3 (mKA10 (Nat.lt_of_not_le (fun z => c12 (Or.inr z))))) (mg_RA R (mRA10 (Nat.lt_of_not_le (fun z => c12 (Or.inr z)))) (mg_A (t := 10) R rfl rfl) (by rw [show S.rI (wkAd (gWitnessworks_leaningChain S (α 0))) (l5I).toNatClampNeg = V.rI 11 (l5I).toNatClampNeg from (mg_rI (i := 11) R (mA13 rfl) (mg_A (t := 11) R rfl rfl) rfl)])) 0)]) (fun c18 h => ?_)
          obtain ⟨V37, eV37, h⟩ := mLt_some h
          refine mU_F eV37 R15 (mO3 (mKA10 (Nat.lt_of_not_le (fun z => c12 (Or.inr z))))) (mg_RA R (mRA10 (Nat.lt_of_not_le (fun z => c12 (Or.inr z)))) (mg_A (t := 10) R rfl rfl) (by rw [show S.rI (wkAd (gWitnessworks_leaningChain S (α 0))) (l5I).toNatClampNeg = V.rI 11 (l5I).toNatClampNeg from (mg_rI (i := 11) R (mA13 rfl) (mg_A (t := 11) R rfl rfl) rfl)])) (by rw [show gEntry_kind S15 (wkAd (S.rA (wkAd (gWitnessworks_book S (α 0))) ((S.rI (wkAd (gWitnessworks_leaningChain S (α 0))) (l5I).toNatClampNeg)).toNatClampNeg)) = V15.fI (256 + 8 * ((V.rI 11 (l5I).toNatClampNeg)).toNatClampNeg) 0 from (mg_I (i := (256 + 8 * ((V.rI 11 (l5I).toNatClampNeg)).toNatClampNeg)) R15 (mO3 (mKA10 (Nat.lt_of_not_le (fun z => c12 (Or.inr z))))) (mg_RA R (mRA10 (Nat.lt_of_not_le (fun z => c12 (Or.inr z)))) (mg_A (t := 10) R rfl rfl) (by rw [show S.rI (wkAd (gWitnessworks_leaningChain S (α 0))) (l5I).toNatClampNeg = V.rI 11 (l5I).toNatClampNeg from (mg_rI (i := 11) R (mA13 rfl) (mg_A (t := 11) R rfl rfl) rfl)])) 0)]) (fun S37 R37 F37 => ?_)
          refine mIf h (by rw [show gEntry_isSolved S37 (wkAd (S.rA (wkAd (gWitnessworks_book S (α 0))) ((S.rI (wkAd (gWitnessworks_leaningChain S (α 0))) (l5I).toNatClampNeg)).toNatClampNeg)) = V37.fI (256 + 8 * ((V.rI 11 (l5I).toNatClampNeg)).toNatClampNeg) 9 from (mg_I (i := (256 + 8 * ((V.rI 11 (l5I).toNatClampNeg)).toNatClampNeg)) R37 (mO3 (mKA10 (Nat.lt_of_not_le (fun z => c12 (Or.inr z))))) (mg_RA R (mRA10 (Nat.lt_of_not_le (fun z => c12 (Or.inr z)))) (mg_A (t := 10) R rfl rfl) (by rw [show S.rI (wkAd (gWitnessworks_leaningChain S (α 0))) (l5I).toNatClampNeg = V.rI 11 (l5I).toNatClampNeg from (mg_rI (i := 11) R (mA13 rfl) (mg_A (t := 11) R rfl rfl) rfl)])) 9)]) (fun c19 h => ?_) (fun c19 h => ?_)
          · obtain ⟨v39, L40, V40, hv39, h⟩ := mBA_some h
            have mv39 : mP L40 ≤ mP Ln := MX4_solve hv39
            have qv39 : mP Ln1 ≤ mP L40 := by
              obtain ⟨_, _, h⟩ := mLt_some h
              exact ihM.2 _ _ _ _ h
            refine ⟨(mP Ln - mP L40) / 16, mP Ln - mP L40, by omega, by omega, ?_⟩
            refine LX4_solve hv39 R37 (mKA10 (Nat.lt_of_not_le (fun z => c12 (Or.inr z)))) (mg_A (t := 1) R37 rfl rfl) (mg_RA R (mRA10 (Nat.lt_of_not_le (fun z => c12 (Or.inr z)))) (mg_A (t := 10) R rfl rfl) (by rw [show S.rI (wkAd (gWitnessworks_leaningChain S (α 0))) (l5I).toNatClampNeg = V.rI 11 (l5I).toNatClampNeg from (mg_rI (i := 11) R (mA13 rfl) (mg_A (t := 11) R rfl rfl) rfl)])) (by omega) (by omega) (fun S40 R40 F40 => ?_)
            refine mLet h rfl (fun x44 ex44 h => ?_)
            exact ih.2 _ _ _ _ _ _ _ R40 sl2A h (by omega) (by omega) (fun S1 R1 F1 => k S1 R1 (F15.tr (F37.tr (F40.tr F1))))
          · refine mIf h (by rw [show gEntry_solvedBound S37 (wkAd (S.rA (wkAd (gWitnessworks_book S (α 0))) ((S.rI (wkAd (gWitnessworks_leaningChain S (α 0))) (l5I).toNatClampNeg)).toNatClampNeg)) = V37.fI (256 + 8 * ((V.rI 11 (l5I).toNatClampNeg)).toNatClampNeg) 10 from (mg_I (i := (256 + 8 * ((V.rI 11 (l5I).toNatClampNeg)).toNatClampNeg)) R37 (mO3 (mKA10 (Nat.lt_of_not_le (fun z => c12 (Or.inr z))))) (mg_RA R (mRA10 (Nat.lt_of_not_le (fun z => c12 (Or.inr z)))) (mg_A (t := 10) R rfl rfl) (by rw [show S.rI (wkAd (gWitnessworks_leaningChain S (α 0))) (l5I).toNatClampNeg = V.rI 11 (l5I).toNatClampNeg from (mg_rI (i := 11) R (mA13 rfl) (mg_A (t := 11) R rfl rfl) rfl)])) 10), show gEntry_boundNow S37 (wkAd (S.rA (wkAd (gWitnessworks_book S (α 0))) ((S.rI (wkAd (gWitnessworks_leaningChain S (α 0))) (l5I).toNatClampNeg)).toNatClampNeg)) = V37.fI (256 + 8 * ((V.rI 11 (l5I).toNatClampNeg)).toNatClampNeg) 8 from (mg_I (i := (256 + 8 * ((V.rI 11 (l5I).toNatClampNeg)).toNatClampNeg)) R37 (mO3 (mKA10 (Nat.lt_of_not_le (fun z => c12 (Or.inr z))))) (mg_RA R (mRA10 (Nat.lt_of_not_le (fun z => c12 (Or.inr z)))) (mg_A (t := 10) R rfl rfl) (by rw [show S.rI (wkAd (gWitnessworks_leaningChain S (α 0))) (l5I).toNatClampNeg = V.rI 11 (l5I).toNatClampNeg from (mg_rI (i := 11) R (mA13 rfl) (mg_A (t := 11) R rfl rfl) rfl)])) 8)]) (fun c20 h => ?_) (fun c20 h => ?_)
            · refine mLet h rfl (fun x46 ex46 h => ?_)
              exact ih.2 _ _ _ _ _ _ _ R37 sl2A h (by omega) (by omega) (fun S1 R1 F1 => k S1 R1 (F15.tr (F37.tr F1)))
            · obtain ⟨v47, L48, V48, hv47, h⟩ := mBA_some h
              have mv47 : mP L48 ≤ mP Ln := MX4_solve hv47
              have qv47 : mP Ln1 ≤ mP L48 := by
                obtain ⟨_, _, h⟩ := mLt_some h
                exact ihM.2 _ _ _ _ h
              refine ⟨(mP Ln - mP L48) / 16, mP Ln - mP L48, by omega, by omega, ?_⟩
              refine LX4_solve hv47 R37 (mKA10 (Nat.lt_of_not_le (fun z => c12 (Or.inr z)))) (mg_A (t := 1) R37 rfl rfl) (mg_RA R (mRA10 (Nat.lt_of_not_le (fun z => c12 (Or.inr z)))) (mg_A (t := 10) R rfl rfl) (by rw [show S.rI (wkAd (gWitnessworks_leaningChain S (α 0))) (l5I).toNatClampNeg = V.rI 11 (l5I).toNatClampNeg from (mg_rI (i := 11) R (mA13 rfl) (mg_A (t := 11) R rfl rfl) rfl)])) (by omega) (by omega) (fun S48 R48 F48 => ?_)
              refine mLet h rfl (fun x52 ex52 h => ?_)
              exact ih.2 _ _ _ _ _ _ _ R48 sl2A h (by omega) (by omega) (fun S1 R1 F1 => k S1 R1 (F15.tr (F37.tr (F48.tr F1))))
set_option maxHeartbeats 4000000 in
set_option maxRecDepth 100000 in
theorem LX11_refreshed {α : Nat → Nat} {F : Nat} {S : wPS} {Ln Ln1 : Nat → Nat} {V V1 : mV} {v : (String ⊕ Nat)} {Φ : (Nat → wPS → Prop)} {Ψ : String → wPS → Prop} {l0Ax : Nat} {l1Ix l1I : Int32} {k0 n0 : Nat} (h : mX11_refreshed F Ln l1I V = some (v, Ln1, V1)) (R : mRel α S Ln V) (el0A : l0Ax = α 0) (el1I : l1Ix = l1I) (hk : (mP Ln - mP Ln1) / 16 ≤ k0) (hn : mP Ln - mP Ln1 ≤ n0) (k : (∀ S1, mRel α S1 Ln1 V1 → mFr α S S1 → mOutA α Φ Ψ v S1)) : rX11_refreshed F k0 n0 l0Ax l1Ix S Φ Ψ := by
  have el0A := el0A.symm
  subst el0A
  have el1I := el1I.symm
  subst el1I
  have ih := LX11_refreshed_go  (α := α) (F := F) (v := v) (k0 := k0) (n0 := n0) (Ln1 := Ln1) (Φ := Φ) (V1 := V1) (Ψ := Ψ) F
  have ihM := MX11_refreshed_go (F := F) (v := v) (Ln1 := Ln1) (V1 := V1) F
  unfold mX11_refreshed mX11_refreshed_s at h
  unfold rX11_refreshed rX11_refreshed_s
  rcases mBT_some h with ⟨E0, L0, V0, z0, h⟩ | ⟨v53, L54, V54, hv53, h⟩
  · have m0 : mP L0 ≤ mP Ln := MX11_entryAt z0
    obtain ⟨rfl, rfl, rfl⟩ := mRA3 h
    refine ⟨(mP Ln - mP L0) / 16, mP Ln - mP L0, by omega, by omega, ?_⟩
    exact LX11_entryAt_E z0 R rfl rfl (by omega) (by omega) (fun S0 R0 F0 => k S0 R0 F0)
  · have mv53 : mP L54 ≤ mP Ln := MX11_entryAt hv53
    have qv53 : mP Ln1 ≤ mP L54 := by
      exact ihM.1 _ _ _ _ _ h
    refine ⟨(mP Ln - mP L54) / 16, mP Ln - mP L54, by omega, by omega, ?_⟩
    refine LX11_entryAt_V hv53 R rfl rfl (by omega) (by omega) (fun S54 R54 F54 sv53 => ?_)
    exact ih.1 _ _ _ _ _ _ _ _ R54 sv53 h (by omega) (by omega) (fun S1 R1 F1 => k S1 R1 (F54.tr F1))
theorem LX11_refreshed_E {α : Nat → Nat} {F : Nat} {S : wPS} {Ln Ln1 : Nat → Nat} {V V1 : mV} {e : String} {Φ : (Nat → wPS → Prop)} {Ψ : String → wPS → Prop} {l0Ax : Nat} {l1Ix l1I : Int32} {k0 n0 : Nat} (h : mX11_refreshed F Ln l1I V = some (.inl e, Ln1, V1)) (R : mRel α S Ln V) (el0A : l0Ax = α 0) (el1I : l1Ix = l1I) (hk : (mP Ln - mP Ln1) / 16 ≤ k0) (hn : mP Ln - mP Ln1 ≤ n0) (k : ∀ S1, mRel α S1 Ln1 V1 → mFr α S S1 → Ψ e S1) : rX11_refreshed F k0 n0 l0Ax l1Ix S Φ Ψ := LX11_refreshed h R el0A el1I hk hn k
theorem LX11_refreshed_V {α : Nat → Nat} {F : Nat} {S : wPS} {Ln Ln1 : Nat → Nat} {V V1 : mV} {a : Nat} {Φ : (Nat → wPS → Prop)} {Ψ : String → wPS → Prop} {l0Ax : Nat} {l1Ix l1I : Int32} {k0 n0 : Nat} (h : mX11_refreshed F Ln l1I V = some (.inr a, Ln1, V1)) (R : mRel α S Ln V) (el0A : l0Ax = α 0) (el1I : l1Ix = l1I) (hk : (mP Ln - mP Ln1) / 16 ≤ k0) (hn : mP Ln - mP Ln1 ≤ n0) (k : ∀ S1, mRel α S1 Ln1 V1 → mFr α S S1 → mK a = 3 → Φ (α a) S1) : rX11_refreshed F k0 n0 l0Ax l1Ix S Φ Ψ := LX11_refreshed h R el0A el1I hk hn k
def mX11_setBound (F : Nat) (Ln : Nat → Nat) (l1I : Int32) (l2I : Int32) (V : mV) : Option ((String ⊕ Int32) × (Nat → Nat) × mV) :=
  (mBT (mX11_refreshed F Ln (l1I) V) (fun v1 L2 V2 => (mBN (mX11_canHaveBound F ((V2.fI v1 0)) (l2I)) fun v6 => (if v6 = 0 then (mTh L2 "java/lang/IllegalArgumentException" V2) else (mBW (mX11_remember F ((98 : Int32)) (l1I) V2) fun v12 V13 => (mLt (V13.fI v1 8) fun x17 => (mLt (mF V13 v1 2 (l2I)) fun V18 => (mLt (mF V18 v1 3 ((-1 : Int32))) fun V19 => some ((.inr (x17)), L2, V19)))))))) (fun E0 L0 V0 => some (.inl E0, L0, V0)))
set_option maxHeartbeats 4000000 in
set_option maxRecDepth 100000 in
theorem MX11_setBound {F : Nat} {Ln Ln1 : Nat → Nat} {V V1 : mV} {v : (String ⊕ Int32)} {l1I : Int32} {l2I : Int32} (h : mX11_setBound F Ln l1I l2I V = some (v, Ln1, V1)) : mP Ln1 ≤ mP Ln := by
  unfold mX11_setBound at h
  rcases mBT_some h with ⟨_, _, _, z1, h⟩ | ⟨_, _, _, z1, h⟩
  · cases h
    exact MX11_refreshed z1
  · refine Nat.le_trans ?_ (MX11_refreshed z1)
    obtain ⟨_, _, h⟩ := mBN_some h
    rcases mIf_some h with ⟨_, h⟩ | ⟨_, h⟩
    · obtain ⟨rfl, rfl, rfl, hth⟩ := mTh_some h
      omega
    · obtain ⟨_, _, _, h⟩ := mBW_some h
      obtain ⟨_, _, h⟩ := mLt_some h
      obtain ⟨_, _, h⟩ := mLt_some h
      obtain ⟨_, _, h⟩ := mLt_some h
      cases h
      exact Nat.le_refl _
set_option maxHeartbeats 4000000 in
set_option maxRecDepth 100000 in
theorem LX11_setBound {α : Nat → Nat} {F : Nat} {S : wPS} {Ln Ln1 : Nat → Nat} {V V1 : mV} {v : (String ⊕ Int32)} {Φ : (Int32 → wPS → Prop)} {Ψ : String → wPS → Prop} {l0Ax : Nat} {l1Ix l1I : Int32} {l2Ix l2I : Int32} {k0 n0 : Nat} (h : mX11_setBound F Ln l1I l2I V = some (v, Ln1, V1)) (R : mRel α S Ln V) (el0A : l0Ax = α 0) (el1I : l1Ix = l1I) (el2I : l2Ix = l2I) (hk : (mP Ln - mP Ln1) / 16 ≤ k0) (hn : mP Ln - mP Ln1 ≤ n0) (k : (∀ S1, mRel α S1 Ln1 V1 → mFr α S S1 → mOut Φ Ψ v S1)) : rX11_setBound F k0 n0 l0Ax l1Ix l2Ix S Φ Ψ := by
  have el0A := el0A.symm
  subst el0A
  have el1I := el1I.symm
  subst el1I
  have el2I := el2I.symm
  subst el2I
  unfold mX11_setBound at h
  unfold rX11_setBound
  rcases mBT_some h with ⟨E0, L0, V0, z0, h⟩ | ⟨v1, L2, V2, hv1, h⟩
  · have m0 : mP L0 ≤ mP Ln := MX11_refreshed z0
    obtain ⟨rfl, rfl, rfl⟩ := mRA3 h
    refine ⟨(mP Ln - mP L0) / 16, mP Ln - mP L0, by omega, by omega, ?_⟩
    exact LX11_refreshed_E z0 R rfl rfl (by omega) (by omega) (fun S0 R0 F0 => k S0 R0 F0)
  · have mv1 : mP L2 ≤ mP Ln := MX11_refreshed hv1
    have qv1 : mP Ln1 ≤ mP L2 := by
      obtain ⟨_, _, h⟩ := mBN_some h
      rcases mIf_some h with ⟨_, h⟩ | ⟨_, h⟩
      · obtain ⟨rfl, rfl, rfl, hth⟩ := mTh_some h
        omega
      · obtain ⟨_, _, _, h⟩ := mBW_some h
        obtain ⟨_, _, h⟩ := mLt_some h
        obtain ⟨_, _, h⟩ := mLt_some h
        obtain ⟨_, _, h⟩ := mLt_some h
        cases h
        exact Nat.le_refl _
    refine ⟨(mP Ln - mP L2) / 16, mP Ln - mP L2, by omega, by omega, ?_⟩
    refine LX11_refreshed_V hv1 R rfl rfl (by omega) (by omega) (fun S2 R2 F2 sv1 => ?_)
    obtain ⟨v6, hv6, h⟩ := mBN_some h
    refine LX11_canHaveBound hv6 (by rw [show gEntry_kind S2 (α v1) = V2.fI v1 0 from (mg_I (i := v1) R2 (mO3 sv1) rfl 0)]) rfl ?_
    refine mIf h Iff.rfl (fun c2 h => ?_) (fun c2 h => ?_)
    · obtain ⟨rfl, rfl, rfl, hth⟩ := mTh_some h
      exact ⟨by omega, by omega, k _ (mRel_th R2) F2⟩
    · obtain ⟨v12, V13, hv12, h⟩ := mBW_some h
      refine LX11_remember hv12 R2 rfl rfl rfl (fun S13 R13 F13 => ?_)
      refine mLet h (by rw [show gEntry_boundNow S13 (α v1) = V13.fI v1 8 from (mg_I (i := v1) R13 (mO3 sv1) rfl 8)]) (fun x17 ex17 h => ?_)
      obtain ⟨V18, eV18, h⟩ := mLt_some h
      refine mU_F eV18 R13 (mO3 sv1) rfl rfl (fun S18 R18 F18 => ?_)
      obtain ⟨V19, eV19, h⟩ := mLt_some h
      refine mU_F eV19 R18 (mO3 sv1) rfl rfl (fun S19 R19 F19 => ?_)
      obtain ⟨rfl, rfl, rfl⟩ := mRA3 h
      exact k _ R19 (F2.tr (F13.tr (F18.tr F19)))
theorem LX11_setBound_E {α : Nat → Nat} {F : Nat} {S : wPS} {Ln Ln1 : Nat → Nat} {V V1 : mV} {e : String} {Φ : (Int32 → wPS → Prop)} {Ψ : String → wPS → Prop} {l0Ax : Nat} {l1Ix l1I : Int32} {l2Ix l2I : Int32} {k0 n0 : Nat} (h : mX11_setBound F Ln l1I l2I V = some (.inl e, Ln1, V1)) (R : mRel α S Ln V) (el0A : l0Ax = α 0) (el1I : l1Ix = l1I) (el2I : l2Ix = l2I) (hk : (mP Ln - mP Ln1) / 16 ≤ k0) (hn : mP Ln - mP Ln1 ≤ n0) (k : ∀ S1, mRel α S1 Ln1 V1 → mFr α S S1 → Ψ e S1) : rX11_setBound F k0 n0 l0Ax l1Ix l2Ix S Φ Ψ := LX11_setBound h R el0A el1I el2I hk hn k
theorem LX11_setBound_V {α : Nat → Nat} {F : Nat} {S : wPS} {Ln Ln1 : Nat → Nat} {V V1 : mV} {a : Int32} {Φ : (Int32 → wPS → Prop)} {Ψ : String → wPS → Prop} {l0Ax : Nat} {l1Ix l1I : Int32} {l2Ix l2I : Int32} {k0 n0 : Nat} (h : mX11_setBound F Ln l1I l2I V = some (.inr a, Ln1, V1)) (R : mRel α S Ln V) (el0A : l0Ax = α 0) (el1I : l1Ix = l1I) (el2I : l2Ix = l2I) (hk : (mP Ln - mP Ln1) / 16 ≤ k0) (hn : mP Ln - mP Ln1 ≤ n0) (k : ∀ S1, mRel α S1 Ln1 V1 → mFr α S S1 → Φ a S1) : rX11_setBound F k0 n0 l0Ax l1Ix l2Ix S Φ Ψ := LX11_setBound h R el0A el1I el2I hk hn k
def mX11_lean (F : Nat) (Ln : Nat → Nat) (l1I : Int32) (l2I : Int32) (l3I : Int32) (V : mV) : Option ((String ⊕ Int32) × (Nat → Nat) × mV) :=
  (mBT (mX11_entryAt F Ln (l1I) V) (fun v1 L2 V2 => (mBT (mX11_entryAt F L2 (l2I) V2) (fun v6 L7 V7 => (if l3I < (-20 : Int32) then (mTh L7 "java/lang/IllegalArgumentException" V7) else (if l3I ≤ (20 : Int32) then (mBN (mX11_leadsTo F (l2I) (l1I) V7) fun v14 => (if v14 = 0 then (mBW (mX11_remember F ((108 : Int32)) (l1I) V7) fun v20 V21 => (mLt (mF V21 v1 3 (l2I)) fun V25 => (mLt (mF V25 v1 4 (l3I)) fun V26 => (mBT (mX11_refreshed F L7 (l1I) V26) (fun v27 L28 V28 => some ((.inr ((V28.fI v27 8))), L28, V28)) (fun E0 L0 V0 => some (.inl E0, L0, V0)))))) else (mTh L7 "java/lang/UnsupportedOperationException" V7))) else (mTh L7 "java/lang/IllegalArgumentException" V7)))) (fun E0 L0 V0 => some (.inl E0, L0, V0)))) (fun E0 L0 V0 => some (.inl E0, L0, V0)))
set_option maxHeartbeats 4000000 in
set_option maxRecDepth 100000 in
theorem MX11_lean {F : Nat} {Ln Ln1 : Nat → Nat} {V V1 : mV} {v : (String ⊕ Int32)} {l1I : Int32} {l2I : Int32} {l3I : Int32} (h : mX11_lean F Ln l1I l2I l3I V = some (v, Ln1, V1)) : mP Ln1 ≤ mP Ln := by
  unfold mX11_lean at h
  rcases mBT_some h with ⟨_, _, _, z1, h⟩ | ⟨_, _, _, z1, h⟩
  · cases h
    exact MX11_entryAt z1
  · refine Nat.le_trans ?_ (MX11_entryAt z1)
    rcases mBT_some h with ⟨_, _, _, z2, h⟩ | ⟨_, _, _, z2, h⟩
    · cases h
      exact MX11_entryAt z2
    · refine Nat.le_trans ?_ (MX11_entryAt z2)
      rcases mIf_some h with ⟨_, h⟩ | ⟨_, h⟩
      · obtain ⟨rfl, rfl, rfl, hth⟩ := mTh_some h
        omega
      · rcases mIf_some h with ⟨_, h⟩ | ⟨_, h⟩
        · obtain ⟨_, _, h⟩ := mBN_some h
          rcases mIf_some h with ⟨_, h⟩ | ⟨_, h⟩
          · obtain ⟨_, _, _, h⟩ := mBW_some h
            obtain ⟨_, _, h⟩ := mLt_some h
            obtain ⟨_, _, h⟩ := mLt_some h
            rcases mBT_some h with ⟨_, _, _, z3, h⟩ | ⟨_, _, _, z3, h⟩
            · cases h
              exact MX11_refreshed z3
            · refine Nat.le_trans ?_ (MX11_refreshed z3)
              cases h
              exact Nat.le_refl _
          · obtain ⟨rfl, rfl, rfl, hth⟩ := mTh_some h
            omega
        · obtain ⟨rfl, rfl, rfl, hth⟩ := mTh_some h
          omega
set_option maxHeartbeats 4000000 in
set_option maxRecDepth 100000 in
theorem LX11_lean {α : Nat → Nat} {F : Nat} {S : wPS} {Ln Ln1 : Nat → Nat} {V V1 : mV} {v : (String ⊕ Int32)} {Φ : (Int32 → wPS → Prop)} {Ψ : String → wPS → Prop} {l0Ax : Nat} {l1Ix l1I : Int32} {l2Ix l2I : Int32} {l3Ix l3I : Int32} {k0 n0 : Nat} (h : mX11_lean F Ln l1I l2I l3I V = some (v, Ln1, V1)) (R : mRel α S Ln V) (el0A : l0Ax = α 0) (el1I : l1Ix = l1I) (el2I : l2Ix = l2I) (el3I : l3Ix = l3I) (hk : (mP Ln - mP Ln1) / 16 ≤ k0) (hn : mP Ln - mP Ln1 ≤ n0) (k : (∀ S1, mRel α S1 Ln1 V1 → mFr α S S1 → mOut Φ Ψ v S1)) : rX11_lean F k0 n0 l0Ax l1Ix l2Ix l3Ix S Φ Ψ := by
  have el0A := el0A.symm
  subst el0A
  have el1I := el1I.symm
  subst el1I
  have el2I := el2I.symm
  subst el2I
  have el3I := el3I.symm
  subst el3I
  unfold mX11_lean at h
  unfold rX11_lean
  rcases mBT_some h with ⟨E0, L0, V0, z0, h⟩ | ⟨v1, L2, V2, hv1, h⟩
  · have m0 : mP L0 ≤ mP Ln := MX11_entryAt z0
    obtain ⟨rfl, rfl, rfl⟩ := mRA3 h
    refine ⟨(mP Ln - mP L0) / 16, mP Ln - mP L0, by omega, by omega, ?_⟩
    exact LX11_entryAt_E z0 R rfl rfl (by omega) (by omega) (fun S0 R0 F0 => k S0 R0 F0)
  · have mv1 : mP L2 ≤ mP Ln := MX11_entryAt hv1
    have qv1 : mP Ln1 ≤ mP L2 := by
      rcases mBT_some h with ⟨_, _, _, z4, h⟩ | ⟨_, _, _, z4, h⟩
      · cases h
        exact MX11_entryAt z4
      · refine Nat.le_trans ?_ (MX11_entryAt z4)
        rcases mIf_some h with ⟨_, h⟩ | ⟨_, h⟩
        · obtain ⟨rfl, rfl, rfl, hth⟩ := mTh_some h
          omega
        · rcases mIf_some h with ⟨_, h⟩ | ⟨_, h⟩
          · obtain ⟨_, _, h⟩ := mBN_some h
            rcases mIf_some h with ⟨_, h⟩ | ⟨_, h⟩
            · obtain ⟨_, _, _, h⟩ := mBW_some h
              obtain ⟨_, _, h⟩ := mLt_some h
              obtain ⟨_, _, h⟩ := mLt_some h
              rcases mBT_some h with ⟨_, _, _, z5, h⟩ | ⟨_, _, _, z5, h⟩
              · cases h
                exact MX11_refreshed z5
              · refine Nat.le_trans ?_ (MX11_refreshed z5)
                cases h
                exact Nat.le_refl _
            · obtain ⟨rfl, rfl, rfl, hth⟩ := mTh_some h
              omega
          · obtain ⟨rfl, rfl, rfl, hth⟩ := mTh_some h
            omega
    refine ⟨(mP Ln - mP L2) / 16, mP Ln - mP L2, by omega, by omega, ?_⟩
    refine LX11_entryAt_V hv1 R rfl rfl (by omega) (by omega) (fun S2 R2 F2 sv1 => ?_)
    rcases mBT_some h with ⟨E0, L0, V0, z0, h⟩ | ⟨v6, L7, V7, hv6, h⟩
    · have m0 : mP L0 ≤ mP L2 := MX11_entryAt z0
      obtain ⟨rfl, rfl, rfl⟩ := mRA3 h
      refine ⟨(mP L2 - mP L0) / 16, mP L2 - mP L0, by omega, by omega, ?_⟩
      exact LX11_entryAt_E z0 R2 rfl rfl (by omega) (by omega) (fun S0 R0 F0 => k S0 R0 (F2.tr F0))
    · have mv6 : mP L7 ≤ mP L2 := MX11_entryAt hv6
      have qv6 : mP Ln1 ≤ mP L7 := by
        rcases mIf_some h with ⟨_, h⟩ | ⟨_, h⟩
        · obtain ⟨rfl, rfl, rfl, hth⟩ := mTh_some h
          omega
        · rcases mIf_some h with ⟨_, h⟩ | ⟨_, h⟩
          · obtain ⟨_, _, h⟩ := mBN_some h
            rcases mIf_some h with ⟨_, h⟩ | ⟨_, h⟩
            · obtain ⟨_, _, _, h⟩ := mBW_some h
              obtain ⟨_, _, h⟩ := mLt_some h
              obtain ⟨_, _, h⟩ := mLt_some h
              rcases mBT_some h with ⟨_, _, _, z6, h⟩ | ⟨_, _, _, z6, h⟩
              · cases h
                exact MX11_refreshed z6
              · refine Nat.le_trans ?_ (MX11_refreshed z6)
                cases h
                exact Nat.le_refl _
            · obtain ⟨rfl, rfl, rfl, hth⟩ := mTh_some h
              omega
          · obtain ⟨rfl, rfl, rfl, hth⟩ := mTh_some h
            omega
      refine ⟨(mP L2 - mP L7) / 16, mP L2 - mP L7, by omega, by omega, ?_⟩
      refine LX11_entryAt_V hv6 R2 rfl rfl (by omega) (by omega) (fun S7 R7 F7 sv6 => ?_)
      refine mIf h Iff.rfl (fun c7 h => ?_) (fun c7 h => ?_)
      · obtain ⟨rfl, rfl, rfl, hth⟩ := mTh_some h
        exact ⟨by omega, by omega, k _ (mRel_th R7) (F2.tr F7)⟩
      · refine mIf h Iff.rfl (fun c8 h => ?_) (fun c8 h => ?_)
        · obtain ⟨v14, hv14, h⟩ := mBN_some h
          refine LX11_leadsTo hv14 R7 rfl rfl rfl ?_
          refine mIf h Iff.rfl (fun c9 h => ?_) (fun c9 h => ?_)
          · obtain ⟨v20, V21, hv20, h⟩ := mBW_some h
            refine LX11_remember hv20 R7 rfl rfl rfl (fun S21 R21 F21 => ?_)
            obtain ⟨V25, eV25, h⟩ := mLt_some h
            refine mU_F eV25 R21 (mO3 sv1) rfl rfl (fun S25 R25 F25 => ?_)
            obtain ⟨V26, eV26, h⟩ := mLt_some h
            refine mU_F eV26 R25 (mO3 sv1) rfl rfl (fun S26 R26 F26 => ?_)
            rcases mBT_some h with ⟨E0, L0, V0, z0, h⟩ | ⟨v27, L28, V28, hv27, h⟩
            · have m0 : mP L0 ≤ mP L7 := MX11_refreshed z0
              obtain ⟨rfl, rfl, rfl⟩ := mRA3 h
              refine ⟨(mP L7 - mP L0) / 16, mP L7 - mP L0, by omega, by omega, ?_⟩
              exact LX11_refreshed_E z0 R26 rfl rfl (by omega) (by omega) (fun S0 R0 F0 => k S0 R0 (F2.tr (F7.tr (F21.tr (F25.tr (F26.tr F0))))))
            · have mv27 : mP L28 ≤ mP L7 := MX11_refreshed hv27
              have qv27 : mP Ln1 ≤ mP L28 := by
                cases h
                exact Nat.le_refl _
              refine ⟨(mP L7 - mP L28) / 16, mP L7 - mP L28, by omega, by omega, ?_⟩
              refine LX11_refreshed_V hv27 R26 rfl rfl (by omega) (by omega) (fun S28 R28 F28 sv27 => ?_)
              obtain ⟨rfl, rfl, rfl⟩ := mRA3 h
              rw [show gEntry_boundNow S28 (α v27) = V28.fI v27 8 from (mg_I (i := v27) R28 (mO3 sv27) rfl 8)]
              exact k _ R28 (F2.tr (F7.tr (F21.tr (F25.tr (F26.tr F28)))))
          · obtain ⟨rfl, rfl, rfl, hth⟩ := mTh_some h
            exact ⟨by omega, by omega, k _ (mRel_th R7) (F2.tr F7)⟩
        · obtain ⟨rfl, rfl, rfl, hth⟩ := mTh_some h
          exact ⟨by omega, by omega, k _ (mRel_th R7) (F2.tr F7)⟩
theorem LX11_lean_E {α : Nat → Nat} {F : Nat} {S : wPS} {Ln Ln1 : Nat → Nat} {V V1 : mV} {e : String} {Φ : (Int32 → wPS → Prop)} {Ψ : String → wPS → Prop} {l0Ax : Nat} {l1Ix l1I : Int32} {l2Ix l2I : Int32} {l3Ix l3I : Int32} {k0 n0 : Nat} (h : mX11_lean F Ln l1I l2I l3I V = some (.inl e, Ln1, V1)) (R : mRel α S Ln V) (el0A : l0Ax = α 0) (el1I : l1Ix = l1I) (el2I : l2Ix = l2I) (el3I : l3Ix = l3I) (hk : (mP Ln - mP Ln1) / 16 ≤ k0) (hn : mP Ln - mP Ln1 ≤ n0) (k : ∀ S1, mRel α S1 Ln1 V1 → mFr α S S1 → Ψ e S1) : rX11_lean F k0 n0 l0Ax l1Ix l2Ix l3Ix S Φ Ψ := LX11_lean h R el0A el1I el2I el3I hk hn k
theorem LX11_lean_V {α : Nat → Nat} {F : Nat} {S : wPS} {Ln Ln1 : Nat → Nat} {V V1 : mV} {a : Int32} {Φ : (Int32 → wPS → Prop)} {Ψ : String → wPS → Prop} {l0Ax : Nat} {l1Ix l1I : Int32} {l2Ix l2I : Int32} {l3Ix l3I : Int32} {k0 n0 : Nat} (h : mX11_lean F Ln l1I l2I l3I V = some (.inr a, Ln1, V1)) (R : mRel α S Ln V) (el0A : l0Ax = α 0) (el1I : l1Ix = l1I) (el2I : l2Ix = l2I) (el3I : l3Ix = l3I) (hk : (mP Ln - mP Ln1) / 16 ≤ k0) (hn : mP Ln - mP Ln1 ≤ n0) (k : ∀ S1, mRel α S1 Ln1 V1 → mFr α S S1 → Φ a S1) : rX11_lean F k0 n0 l0Ax l1Ix l2Ix l3Ix S Φ Ψ := LX11_lean h R el0A el1I el2I el3I hk hn k
end
