/-! TWO BOOKS SIDE BY SIDE. -/
section
/-- the book β was made behind S0, in which the book α stands -/
def mDis (α β : Nat → Nat) (S0 S : wPS) : Prop := (∀ i, mK i ≠ 99 → α i ∈ S0.L) ∧ (∀ i, mK i ≠ 99 → ¬ β i ∈ S0.L) ∧ (∀ d, mDy d → ¬ mq β S d ∈ S0.L) ∧ (∀ i d, mK i ≠ 99 → mDy d → β i ≠ mq α S d) ∧ ∀ d d', mDy d → mDy d' → mq β S d ≠ mq α S d'
theorem mOut_a {α β : Nat → Nat} {S0 S S' : wPS} {Lm : Nat → Nat} {U : mV} (Q : mRel β S Lm U) (D : mDis α β S0 S) (F : mFr α S S') (G0 : mFr α S0 S) : mRel β S' Lm U ∧ mDis α β S0 S' ∧ mFr α S0 S' := by
  obtain ⟨d1, d2, d3, d4, d5⟩ := D
  have hc : ∀ a, ((∃ i, mK i ≠ 99 ∧ a = β i) ∨ ∃ d, mDy d ∧ a = mq β S d) → a ∈ S.L ∧ (∀ i, mK i ≠ 99 → a ≠ α i) ∧ ∀ d, mDy d → a ≠ mq α S d := fun a ha => by
    rcases ha with ⟨i, hi, rfl⟩ | ⟨d, hd, rfl⟩
    · exact ⟨(Q.1 i hi).1, fun j hj e => d2 i hi (e ▸ d1 j hj), fun d hd => d4 i d hi hd⟩
    · exact ⟨(Q.2.2.2.2.2.2.2.1 d hd).2.1.1, fun j hj e => d3 d hd (e ▸ d1 j hj), fun d' hd' => d5 d d' hd hd'⟩
  have hm := mRel_on Q (S' := S') fun a ha => by
    obtain ⟨b1, b2, b3⟩ := hc a ha
    obtain ⟨a1, a2, a3, a4, a5, a6, a7, a8, a9, _⟩ := F.2.2 a b1 b2 b3
    exact ⟨a1, a2, a3, a4, a5, a6, a7, a8, a9⟩
  refine ⟨hm.1, ⟨d1, d2, fun d hd => by rw [hm.2 d hd]; exact d3 d hd, fun i d hi hd => ?_, fun d d' hd hd' => ?_⟩, G0.tr F⟩
  · obtain ⟨b1, b2, b3⟩ := hc (β i) (Or.inl ⟨i, hi, rfl⟩)
    exact (F.2.2 _ b1 b2 b3).2.2.2.2.2.2.2.2.2 d hd
  · rw [hm.2 d hd]
    obtain ⟨b1, b2, b3⟩ := hc (mq β S d) (Or.inr ⟨d, hd, rfl⟩)
    exact (F.2.2 _ b1 b2 b3).2.2.2.2.2.2.2.2.2 d' hd'
theorem mOut_b {α β : Nat → Nat} {S0 S S' : wPS} {Ln : Nat → Nat} {V : mV} (R : mRel α S Ln V) (D : mDis α β S0 S) (F : mFr β S S') (G0 : mFr α S0 S) : mRel α S' Ln V ∧ mDis α β S0 S' ∧ mFr α S0 S' := by
  obtain ⟨d1, d2, d3, d4, d5⟩ := D
  have hc : ∀ a, ((∃ i, mK i ≠ 99 ∧ a = α i) ∨ ∃ d, mDy d ∧ a = mq α S d) → a ∈ S.L ∧ (∀ i, mK i ≠ 99 → a ≠ β i) ∧ ∀ d, mDy d → a ≠ mq β S d := fun a ha => by
    rcases ha with ⟨i, hi, rfl⟩ | ⟨d, hd, rfl⟩
    · exact ⟨(R.1 i hi).1, fun j hj e => d2 j hj (e ▸ d1 i hi), fun d hd e => d3 d hd (e ▸ d1 i hi)⟩
    · exact ⟨(R.2.2.2.2.2.2.2.1 d hd).2.1.1, fun j hj e => d4 j d hj hd e.symm, fun d' hd' e => d5 d' d hd' hd e.symm⟩
  have h0 : ∀ a, a ∈ S0.L → (∀ i, mK i ≠ 99 → a ≠ β i) ∧ ∀ d, mDy d → a ≠ mq β S d := fun a ha => ⟨fun i hi e => d2 i hi (e ▸ ha), fun d hd e => d3 d hd (e ▸ ha)⟩
  have hm := mRel_on R (S' := S') fun a ha => by
    obtain ⟨b1, b2, b3⟩ := hc a ha
    obtain ⟨a1, a2, a3, a4, a5, a6, a7, a8, a9, _⟩ := F.2.2 a b1 b2 b3
    exact ⟨a1, a2, a3, a4, a5, a6, a7, a8, a9⟩
  refine ⟨hm.1, ⟨d1, d2, fun d hd e => ?_, fun i d hi hd => by rw [hm.2 d hd]; exact d4 i d hi hd, fun d d' hd hd' e => ?_⟩, ⟨fun a ha => F.1 a (G0.1 a ha), fun w => F.2.1 (G0.2.1 w), fun a ha hn hd => ?_⟩⟩
  · obtain ⟨b2, b3⟩ := h0 _ e
    exact (F.2.2 _ (G0.1 _ e) b2 b3).2.2.2.2.2.2.2.2.2 d hd rfl
  · rw [hm.2 d' hd'] at e
    obtain ⟨b1, b2, b3⟩ := hc (mq α S d') (Or.inr ⟨d', hd', rfl⟩)
    exact (F.2.2 _ b1 b2 b3).2.2.2.2.2.2.2.2.2 d hd e.symm
  · obtain ⟨a1, a2, a3, a4, a5, a6, a7, a8, a9, a10⟩ := G0.2.2 a ha hn hd
    obtain ⟨b2, b3⟩ := h0 a ha
    obtain ⟨c1, c2, c3, c4, c5, c6, c7, c8, c9, _⟩ := F.2.2 a a1 b2 b3
    exact ⟨c1, c2.trans a2, c3.trans a3, c4.trans a4, c5.trans a5, c6.trans a6, c7.trans a7, c8.trans a8, c9.trans a9, fun d z => by rw [hm.2 d z]; exact a10 d z⟩
def mL_isAnew_b0 (G : wkG) (F : Nat) (rec : Nat → (Nat → Nat) → (Nat → Nat) → Int32 → Int32 → mV → mV → Option (Int32 × (Nat → Nat) × mV × (Nat → Nat) × mV)) (Ln Lm : Nat → Nat) (l2I : Int32) (V U : mV) : Option (Int32 × (Nat → Nat) × mV × (Nat → Nat) × mV) :=
  (mBN (mL_entries G F V) fun v1 => (if 0 ≤ (lg_cmp (Int32.toInt64 l2I) v1) then (mBA (mL_checksum G F Lm U) fun v7 L8 V8 => (mBA (mL_checksum G F Ln V) fun v12 L13 V13 => (if (lg_cmp v7 v12) = 0 then some ((1 : Int32), L13, V13, L8, V8) else some ((0 : Int32), L13, V13, L8, V8)))) else (mBA (mL_kindOf G F Ln (l2I) V) fun v18 L19 V19 => (mBA (mL_sizeOf G F L19 (l2I) V19) fun v23 L24 V24 => (mBA (mL_boundOf G F L24 (l2I) V24) fun v28 L29 V29 => (mBA (mL_open G F Lm (((Int32.toUInt32 (Int64.toInt32 v18)) % 65536).toInt32) ((Int64.toInt32 v23)) ((Int64.toInt32 v28)) U) fun v33 L34 V34 => (if (lg_cmp v33 (Int32.toInt64 l2I)) = 0 then (rec 1 L29 L34 (l2I) ((0 : Int32)) V29 V34) else some ((0 : Int32), L29, V29, L34, V34))))))))
def mL_isAnew_b1 (G : wkG) (F : Nat) (rec : Nat → (Nat → Nat) → (Nat → Nat) → Int32 → Int32 → mV → mV → Option (Int32 × (Nat → Nat) × mV × (Nat → Nat) × mV)) (Ln Lm : Nat → Nat) (l2I l3I : Int32) (V U : mV) : Option (Int32 × (Nat → Nat) × mV × (Nat → Nat) × mV) :=
  (mBA (mL_items G F Ln (l2I) V) fun v39 L40 V40 => (if 0 ≤ (lg_cmp (Int32.toInt64 l3I) v39) then (mBA (mL_answer G F Lm (l2I) U) fun v45 L46 V46 => (mBA (mL_answer G F L40 (l2I) V40) fun v50 L51 V51 => (if (lg_cmp v45 v50) = 0 then (mBA (mL_number G F L46 (l2I) V46) fun v56 L57 V57 => (mBA (mL_number G F L51 (l2I) V51) fun v61 L62 V62 => (if (lg_cmp v56 v61) = 0 then (mBA (mL_rowSum G F L57 (l2I) V57) fun v67 L68 V68 => (mBA (mL_rowSum G F L62 (l2I) V62) fun v72 L73 V73 => (if (lg_cmp v67 v72) = 0 then (mLt (l2I + (1 : Int32)) fun x78 => (rec 0 L73 L68 (x78) (0) V73 V68)) else some ((0 : Int32), L73, V73, L68, V68)))) else some ((0 : Int32), L62, V62, L57, V57)))) else some ((0 : Int32), L51, V51, L46, V46)))) else (mBA (mL_item G F L40 (l2I) (l3I) ((0 : Int32)) V40) fun v79 L80 V80 => (mBA (mL_item G F L80 (l2I) (l3I) ((1 : Int32)) V80) fun v84 L85 V85 => (mBA (mL_item G F L85 (l2I) (l3I) ((2 : Int32)) V85) fun v89 L90 V90 => (mBA (mL_item G F L90 (l2I) (l3I) ((3 : Int32)) V90) fun v94 L95 V95 => (mBA (mL_item G F L95 (l2I) (l3I) ((4 : Int32)) V95) fun v99 L100 V100 => (mBA (mL_put G F Lm (l2I) ((Int64.toInt32 v79)) ((Int64.toInt32 v84)) ((Int64.toInt32 v89)) ((Int64.toInt32 v94)) ((Int64.toInt32 v99)) U) fun v104 L105 V105 => (if (lg_cmp v104 (Int32.toInt64 (l3I + (1 : Int32)))) = 0 then (mLt (l3I + (1 : Int32)) fun x110 => (rec 1 L100 L105 (l2I) (x110) V100 V105)) else some ((0 : Int32), L100, V100, L105, V105))))))))))
def mL_isAnew_go (G : wkG) (F : Nat) : Nat → Nat → (Nat → Nat) → (Nat → Nat) → Int32 → Int32 → mV → mV → Option (Int32 × (Nat → Nat) × mV × (Nat → Nat) × mV)
  | 0, _, _, _, _, _, _, _ => none
  | k' + 1, lab, Ln, Lm, l2I, l3I, V, U => if lab = 0 then mL_isAnew_b0 G F (mL_isAnew_go G F k') Ln Lm l2I V U else if lab = 1 then mL_isAnew_b1 G F (mL_isAnew_go G F k') Ln Lm l2I l3I V U else none
theorem ML_isAnew_go {G : wkG} {F : Nat} {v : Int32} {Ln1 Lm1 : Nat → Nat} {V1 U1 : mV} : ∀ k' : Nat, (∀ (l2I : Int32) (Ln Lm : Nat → Nat) (V U : mV), mL_isAnew_go G F k' 0 Ln Lm l2I 0 V U = some (v, Ln1, V1, Lm1, U1) → mP Ln1 + mP Lm1 ≤ mP Ln + mP Lm) ∧ (∀ (l2I l3I : Int32) (Ln Lm : Nat → Nat) (V U : mV), mL_isAnew_go G F k' 1 Ln Lm l2I l3I V U = some (v, Ln1, V1, Lm1, U1) → mP Ln1 + mP Lm1 ≤ mP Ln + mP Lm) := by
  intro k'
  induction k' with
  | zero => exact ⟨(fun _ _ _ _ _ h => by cases h), (fun _ _ _ _ _ _ h => by cases h)⟩
  | succ k' ihM =>
    refine ⟨?_, ?_⟩
    · intro l2I Ln Lm V U h
      rw [mL_isAnew_go, if_pos rfl] at h
      unfold mL_isAnew_b0 at h
      obtain ⟨_, _, h⟩ := mBN_some h
      rcases mIf_some h with ⟨_, h⟩ | ⟨_, h⟩
      · obtain ⟨_, _, _, z1, h⟩ := mBA_some h
        have z1 := ML_checksum z1
        refine Nat.le_trans (m := _) ?_ (Nat.add_le_add_left z1 _)
        obtain ⟨_, _, _, z2, h⟩ := mBA_some h
        have z2 := ML_checksum z2
        refine Nat.le_trans (m := _) ?_ (Nat.add_le_add_right z2 _)
        rcases mIf_some h with ⟨_, h⟩ | ⟨_, h⟩
        · cases h
          exact Nat.le_refl _
        · cases h
          exact Nat.le_refl _
      · obtain ⟨_, _, _, z3, h⟩ := mBA_some h
        have z3 := ML_kindOf z3
        refine Nat.le_trans (m := _) ?_ (Nat.add_le_add_right z3 _)
        obtain ⟨_, _, _, z4, h⟩ := mBA_some h
        have z4 := ML_sizeOf z4
        refine Nat.le_trans (m := _) ?_ (Nat.add_le_add_right z4 _)
        obtain ⟨_, _, _, z5, h⟩ := mBA_some h
        have z5 := ML_boundOf z5
        refine Nat.le_trans (m := _) ?_ (Nat.add_le_add_right z5 _)
        obtain ⟨_, _, _, z6, h⟩ := mBA_some h
        have z6 := ML_open z6
        refine Nat.le_trans (m := _) ?_ (Nat.add_le_add_left z6 _)
        rcases mIf_some h with ⟨_, h⟩ | ⟨_, h⟩
        · exact ihM.2 _ _ _ _ _ _ h
        · cases h
          exact Nat.le_refl _
    · intro l2I l3I Ln Lm V U h
      rw [mL_isAnew_go, if_neg (by decide), if_pos rfl] at h
      unfold mL_isAnew_b1 at h
      obtain ⟨_, _, _, z7, h⟩ := mBA_some h
      have z7 := ML_items z7
      refine Nat.le_trans (m := _) ?_ (Nat.add_le_add_right z7 _)
      rcases mIf_some h with ⟨_, h⟩ | ⟨_, h⟩
      · obtain ⟨_, _, _, z8, h⟩ := mBA_some h
        have z8 := ML_answer z8
        refine Nat.le_trans (m := _) ?_ (Nat.add_le_add_left z8 _)
        obtain ⟨_, _, _, z9, h⟩ := mBA_some h
        have z9 := ML_answer z9
        refine Nat.le_trans (m := _) ?_ (Nat.add_le_add_right z9 _)
        rcases mIf_some h with ⟨_, h⟩ | ⟨_, h⟩
        · obtain ⟨_, _, _, z10, h⟩ := mBA_some h
          have z10 := ML_number z10
          refine Nat.le_trans (m := _) ?_ (Nat.add_le_add_left z10 _)
          obtain ⟨_, _, _, z11, h⟩ := mBA_some h
          have z11 := ML_number z11
          refine Nat.le_trans (m := _) ?_ (Nat.add_le_add_right z11 _)
          rcases mIf_some h with ⟨_, h⟩ | ⟨_, h⟩
          · obtain ⟨_, _, _, z12, h⟩ := mBA_some h
            have z12 := ML_rowSum z12
            refine Nat.le_trans (m := _) ?_ (Nat.add_le_add_left z12 _)
            obtain ⟨_, _, _, z13, h⟩ := mBA_some h
            have z13 := ML_rowSum z13
            refine Nat.le_trans (m := _) ?_ (Nat.add_le_add_right z13 _)
            rcases mIf_some h with ⟨_, h⟩ | ⟨_, h⟩
            · obtain ⟨_, _, h⟩ := mLt_some h
              exact ihM.1 _ _ _ _ _ h
            · cases h
              exact Nat.le_refl _
          · cases h
            exact Nat.le_refl _
        · cases h
          exact Nat.le_refl _
      · obtain ⟨_, _, _, z14, h⟩ := mBA_some h
        have z14 := ML_item z14
        refine Nat.le_trans (m := _) ?_ (Nat.add_le_add_right z14 _)
        obtain ⟨_, _, _, z15, h⟩ := mBA_some h
        have z15 := ML_item z15
        refine Nat.le_trans (m := _) ?_ (Nat.add_le_add_right z15 _)
        obtain ⟨_, _, _, z16, h⟩ := mBA_some h
        have z16 := ML_item z16
        refine Nat.le_trans (m := _) ?_ (Nat.add_le_add_right z16 _)
        obtain ⟨_, _, _, z17, h⟩ := mBA_some h
        have z17 := ML_item z17
        refine Nat.le_trans (m := _) ?_ (Nat.add_le_add_right z17 _)
        obtain ⟨_, _, _, z18, h⟩ := mBA_some h
        have z18 := ML_item z18
        refine Nat.le_trans (m := _) ?_ (Nat.add_le_add_right z18 _)
        obtain ⟨_, _, _, z19, h⟩ := mBA_some h
        have z19 := ML_put z19
        refine Nat.le_trans (m := _) ?_ (Nat.add_le_add_left z19 _)
        rcases mIf_some h with ⟨_, h⟩ | ⟨_, h⟩
        · obtain ⟨_, _, h⟩ := mLt_some h
          exact ihM.2 _ _ _ _ _ _ h
        · cases h
          exact Nat.le_refl _
theorem mRA5 {α β γ δ ε : Type} {a v : α} {b w : β} {c x : γ} {d y : δ} {e z : ε} (h : some (a, b, c, d, e) = some (v, w, x, y, z)) : a = v ∧ b = w ∧ c = x ∧ d = y ∧ e = z := by
  cases h
  exact ⟨rfl, rfl, rfl, rfl, rfl⟩
set_option maxHeartbeats 4000000 in
theorem LL_isAnew_go {G : wkG} {α β : Nat → Nat} {k0 n0 F : Nat} {S0 : wPS} {v : Int32} {Ln1 Lm1 : Nat → Nat} {V1 U1 : mV} {Φ : (Int32 → wPS → Prop)} (k : ∀ S1, mRel α S1 Ln1 V1 → mFr α S0 S1 → Φ v S1) : ∀ k' : Nat, (∀ (l2I : Int32) (S : wPS) (V U : mV) (Ln Lm : Nat → Nat) (c s : Nat), mRel α S Ln V → mRel β S Lm U → mDis α β S0 S → mFr α S0 S → mL_isAnew_go G F k' 0 Ln Lm l2I 0 V U = some (v, Ln1, V1, Lm1, U1) → c + ((mP Ln + mP Lm) - (mP Ln1 + mP Lm1)) / 16 ≤ k0 → s + ((mP Ln + mP Lm) - (mP Ln1 + mP Lm1)) ≤ n0 → rL_isAnew_go G F k0 n0 k' 0 c s (α 0) (β 0) l2I 0 S Φ) ∧ (∀ (l2I l3I : Int32) (S : wPS) (V U : mV) (Ln Lm : Nat → Nat) (c s : Nat), mRel α S Ln V → mRel β S Lm U → mDis α β S0 S → mFr α S0 S → mL_isAnew_go G F k' 1 Ln Lm l2I l3I V U = some (v, Ln1, V1, Lm1, U1) → c + ((mP Ln + mP Lm) - (mP Ln1 + mP Lm1)) / 16 ≤ k0 → s + ((mP Ln + mP Lm) - (mP Ln1 + mP Lm1)) ≤ n0 → rL_isAnew_go G F k0 n0 k' 1 c s (α 0) (β 0) l2I l3I S Φ) := by
  intro k'
  induction k' with
  | zero => exact ⟨(fun _ _ _ _ _ _ _ _ _ _ _ _ h _ _ => by cases h), (fun _ _ _ _ _ _ _ _ _ _ _ _ _ h _ _ => by cases h)⟩
  | succ k' ih =>
    refine ⟨?_, ?_⟩
    · intro l2I S V U Ln Lm c s R Q D F0 h hk hn
      rw [mL_isAnew_go, if_pos rfl] at h
      rw [rL_isAnew_go, if_pos rfl]
      unfold mL_isAnew_b0 at h
      unfold rL_isAnew_b0
      obtain ⟨v1, hv1, h⟩ := mBN_some h
      refine LL_entries hv1 R rfl ?_
      refine mIf h Iff.rfl (fun c20 h => ?_) (fun c20 h => ?_)
      · obtain ⟨v7, L8, V8, hv7, h⟩ := mBA_some h
        have mv7 : mP L8 ≤ mP Lm := ML_checksum hv7
        have qv7 : mP Ln1 + mP Lm1 ≤ mP Ln + mP L8 := by
          have ihM := ML_isAnew_go (G := G) (F := F) (v := v) (Ln1 := Ln1) (Lm1 := Lm1) (V1 := V1) (U1 := U1) k'
          obtain ⟨_, _, _, z21, h⟩ := mBA_some h
          have z21 := ML_checksum z21
          refine Nat.le_trans (m := _) ?_ (Nat.add_le_add_right z21 _)
          rcases mIf_some h with ⟨_, h⟩ | ⟨_, h⟩
          · cases h
            exact Nat.le_refl _
          · cases h
            exact Nat.le_refl _
        refine ⟨(mP Lm - mP L8) / 16, mP Lm - mP L8, by omega, by omega, ?_⟩
        refine LL_checksum hv7 Q rfl (by omega) (by omega) (fun S8 Q8 F8 => ?_)
        obtain ⟨R8, D8, G8⟩ := mOut_b R D F8 F0
        obtain ⟨v12, L13, V13, hv12, h⟩ := mBA_some h
        have mv12 : mP L13 ≤ mP Ln := ML_checksum hv12
        have qv12 : mP Ln1 + mP Lm1 ≤ mP L13 + mP L8 := by
          have ihM := ML_isAnew_go (G := G) (F := F) (v := v) (Ln1 := Ln1) (Lm1 := Lm1) (V1 := V1) (U1 := U1) k'
          rcases mIf_some h with ⟨_, h⟩ | ⟨_, h⟩
          · cases h
            exact Nat.le_refl _
          · cases h
            exact Nat.le_refl _
        refine ⟨(mP Ln - mP L13) / 16, mP Ln - mP L13, by omega, by omega, ?_⟩
        refine LL_checksum hv12 R8 rfl (by omega) (by omega) (fun S13 R13 F13 => ?_)
        obtain ⟨Q13, D13, G13⟩ := mOut_a Q8 D8 F13 G8
        refine mIf h Iff.rfl (fun c22 h => ?_) (fun c22 h => ?_)
        · obtain ⟨rfl, rfl, rfl, rfl, rfl⟩ := mRA5 h
          exact k _ R13 G13
        · obtain ⟨rfl, rfl, rfl, rfl, rfl⟩ := mRA5 h
          exact k _ R13 G13
      · obtain ⟨v18, L19, V19, hv18, h⟩ := mBA_some h
        have mv18 : mP L19 ≤ mP Ln := ML_kindOf hv18
        have qv18 : mP Ln1 + mP Lm1 ≤ mP L19 + mP Lm := by
          have ihM := ML_isAnew_go (G := G) (F := F) (v := v) (Ln1 := Ln1) (Lm1 := Lm1) (V1 := V1) (U1 := U1) k'
          obtain ⟨_, _, _, z23, h⟩ := mBA_some h
          have z23 := ML_sizeOf z23
          refine Nat.le_trans (m := _) ?_ (Nat.add_le_add_right z23 _)
          obtain ⟨_, _, _, z24, h⟩ := mBA_some h
          have z24 := ML_boundOf z24
          refine Nat.le_trans (m := _) ?_ (Nat.add_le_add_right z24 _)
          obtain ⟨_, _, _, z25, h⟩ := mBA_some h
          have z25 := ML_open z25
          refine Nat.le_trans (m := _) ?_ (Nat.add_le_add_left z25 _)
          rcases mIf_some h with ⟨_, h⟩ | ⟨_, h⟩
          · exact ihM.2 _ _ _ _ _ _ h
          · cases h
            exact Nat.le_refl _
        refine ⟨(mP Ln - mP L19) / 16, mP Ln - mP L19, by omega, by omega, ?_⟩
        refine LL_kindOf hv18 R rfl rfl (by omega) (by omega) (fun S19 R19 F19 => ?_)
        obtain ⟨Q19, D19, G19⟩ := mOut_a Q D F19 F0
        obtain ⟨v23, L24, V24, hv23, h⟩ := mBA_some h
        have mv23 : mP L24 ≤ mP L19 := ML_sizeOf hv23
        have qv23 : mP Ln1 + mP Lm1 ≤ mP L24 + mP Lm := by
          have ihM := ML_isAnew_go (G := G) (F := F) (v := v) (Ln1 := Ln1) (Lm1 := Lm1) (V1 := V1) (U1 := U1) k'
          obtain ⟨_, _, _, z26, h⟩ := mBA_some h
          have z26 := ML_boundOf z26
          refine Nat.le_trans (m := _) ?_ (Nat.add_le_add_right z26 _)
          obtain ⟨_, _, _, z27, h⟩ := mBA_some h
          have z27 := ML_open z27
          refine Nat.le_trans (m := _) ?_ (Nat.add_le_add_left z27 _)
          rcases mIf_some h with ⟨_, h⟩ | ⟨_, h⟩
          · exact ihM.2 _ _ _ _ _ _ h
          · cases h
            exact Nat.le_refl _
        refine ⟨(mP L19 - mP L24) / 16, mP L19 - mP L24, by omega, by omega, ?_⟩
        refine LL_sizeOf hv23 R19 rfl rfl (by omega) (by omega) (fun S24 R24 F24 => ?_)
        obtain ⟨Q24, D24, G24⟩ := mOut_a Q19 D19 F24 G19
        obtain ⟨v28, L29, V29, hv28, h⟩ := mBA_some h
        have mv28 : mP L29 ≤ mP L24 := ML_boundOf hv28
        have qv28 : mP Ln1 + mP Lm1 ≤ mP L29 + mP Lm := by
          have ihM := ML_isAnew_go (G := G) (F := F) (v := v) (Ln1 := Ln1) (Lm1 := Lm1) (V1 := V1) (U1 := U1) k'
          obtain ⟨_, _, _, z28, h⟩ := mBA_some h
          have z28 := ML_open z28
          refine Nat.le_trans (m := _) ?_ (Nat.add_le_add_left z28 _)
          rcases mIf_some h with ⟨_, h⟩ | ⟨_, h⟩
          · exact ihM.2 _ _ _ _ _ _ h
          · cases h
            exact Nat.le_refl _
        refine ⟨(mP L24 - mP L29) / 16, mP L24 - mP L29, by omega, by omega, ?_⟩
        refine LL_boundOf hv28 R24 rfl rfl (by omega) (by omega) (fun S29 R29 F29 => ?_)
        obtain ⟨Q29, D29, G29⟩ := mOut_a Q24 D24 F29 G24
        obtain ⟨v33, L34, V34, hv33, h⟩ := mBA_some h
        have mv33 : mP L34 ≤ mP Lm := ML_open hv33
        have qv33 : mP Ln1 + mP Lm1 ≤ mP L29 + mP L34 := by
          have ihM := ML_isAnew_go (G := G) (F := F) (v := v) (Ln1 := Ln1) (Lm1 := Lm1) (V1 := V1) (U1 := U1) k'
          rcases mIf_some h with ⟨_, h⟩ | ⟨_, h⟩
          · exact ihM.2 _ _ _ _ _ _ h
          · cases h
            exact Nat.le_refl _
        refine ⟨(mP Lm - mP L34) / 16, mP Lm - mP L34, by omega, by omega, ?_⟩
        refine LL_open hv33 Q29 rfl rfl rfl rfl (by omega) (by omega) (fun S34 Q34 F34 => ?_)
        obtain ⟨R34, D34, G34⟩ := mOut_b R29 D29 F34 G29
        refine mIf h Iff.rfl (fun c29 h => ?_) (fun c29 h => ?_)
        · exact ih.2 _ _ _ _ _ _ _ _ _ R34 Q34 D34 G34 h (by omega) (by omega)
        · obtain ⟨rfl, rfl, rfl, rfl, rfl⟩ := mRA5 h
          exact k _ R34 G34
    · intro l2I l3I S V U Ln Lm c s R Q D F0 h hk hn
      rw [mL_isAnew_go, if_neg (by decide), if_pos rfl] at h
      rw [rL_isAnew_go, if_neg (by decide), if_pos rfl]
      unfold mL_isAnew_b1 at h
      unfold rL_isAnew_b1
      obtain ⟨v39, L40, V40, hv39, h⟩ := mBA_some h
      have mv39 : mP L40 ≤ mP Ln := ML_items hv39
      have qv39 : mP Ln1 + mP Lm1 ≤ mP L40 + mP Lm := by
        have ihM := ML_isAnew_go (G := G) (F := F) (v := v) (Ln1 := Ln1) (Lm1 := Lm1) (V1 := V1) (U1 := U1) k'
        rcases mIf_some h with ⟨_, h⟩ | ⟨_, h⟩
        · obtain ⟨_, _, _, z30, h⟩ := mBA_some h
          have z30 := ML_answer z30
          refine Nat.le_trans (m := _) ?_ (Nat.add_le_add_left z30 _)
          obtain ⟨_, _, _, z31, h⟩ := mBA_some h
          have z31 := ML_answer z31
          refine Nat.le_trans (m := _) ?_ (Nat.add_le_add_right z31 _)
          rcases mIf_some h with ⟨_, h⟩ | ⟨_, h⟩
          · obtain ⟨_, _, _, z32, h⟩ := mBA_some h
            have z32 := ML_number z32
            refine Nat.le_trans (m := _) ?_ (Nat.add_le_add_left z32 _)
            obtain ⟨_, _, _, z33, h⟩ := mBA_some h
            have z33 := ML_number z33
            refine Nat.le_trans (m := _) ?_ (Nat.add_le_add_right z33 _)
            rcases mIf_some h with ⟨_, h⟩ | ⟨_, h⟩
            · obtain ⟨_, _, _, z34, h⟩ := mBA_some h
              have z34 := ML_rowSum z34
              refine Nat.le_trans (m := _) ?_ (Nat.add_le_add_left z34 _)
              obtain ⟨_, _, _, z35, h⟩ := mBA_some h
              have z35 := ML_rowSum z35
              refine Nat.le_trans (m := _) ?_ (Nat.add_le_add_right z35 _)
              rcases mIf_some h with ⟨_, h⟩ | ⟨_, h⟩
              · obtain ⟨_, _, h⟩ := mLt_some h
                exact ihM.1 _ _ _ _ _ h
              · cases h
                exact Nat.le_refl _
            · cases h
              exact Nat.le_refl _
          · cases h
            exact Nat.le_refl _
        · obtain ⟨_, _, _, z36, h⟩ := mBA_some h
          have z36 := ML_item z36
          refine Nat.le_trans (m := _) ?_ (Nat.add_le_add_right z36 _)
          obtain ⟨_, _, _, z37, h⟩ := mBA_some h
          have z37 := ML_item z37
          refine Nat.le_trans (m := _) ?_ (Nat.add_le_add_right z37 _)
          obtain ⟨_, _, _, z38, h⟩ := mBA_some h
          have z38 := ML_item z38
          refine Nat.le_trans (m := _) ?_ (Nat.add_le_add_right z38 _)
          obtain ⟨_, _, _, z39, h⟩ := mBA_some h
          have z39 := ML_item z39
          refine Nat.le_trans (m := _) ?_ (Nat.add_le_add_right z39 _)
          obtain ⟨_, _, _, z40, h⟩ := mBA_some h
          have z40 := ML_item z40
          refine Nat.le_trans (m := _) ?_ (Nat.add_le_add_right z40 _)
          obtain ⟨_, _, _, z41, h⟩ := mBA_some h
          have z41 := ML_put z41
          refine Nat.le_trans (m := _) ?_ (Nat.add_le_add_left z41 _)
          rcases mIf_some h with ⟨_, h⟩ | ⟨_, h⟩
          · obtain ⟨_, _, h⟩ := mLt_some h
            exact ihM.2 _ _ _ _ _ _ h
          · cases h
            exact Nat.le_refl _
      refine ⟨(mP Ln - mP L40) / 16, mP Ln - mP L40, by omega, by omega, ?_⟩
      refine LL_items hv39 R rfl rfl (by omega) (by omega) (fun S40 R40 F40 => ?_)
      obtain ⟨Q40, D40, G40⟩ := mOut_a Q D F40 F0
      refine mIf h Iff.rfl (fun c42 h => ?_) (fun c42 h => ?_)
      · obtain ⟨v45, L46, V46, hv45, h⟩ := mBA_some h
        have mv45 : mP L46 ≤ mP Lm := ML_answer hv45
        have qv45 : mP Ln1 + mP Lm1 ≤ mP L40 + mP L46 := by
          have ihM := ML_isAnew_go (G := G) (F := F) (v := v) (Ln1 := Ln1) (Lm1 := Lm1) (V1 := V1) (U1 := U1) k'
          obtain ⟨_, _, _, z43, h⟩ := mBA_some h
          have z43 := ML_answer z43
          refine Nat.le_trans (m := _) ?_ (Nat.add_le_add_right z43 _)
          rcases mIf_some h with ⟨_, h⟩ | ⟨_, h⟩
          · obtain ⟨_, _, _, z44, h⟩ := mBA_some h
            have z44 := ML_number z44
            refine Nat.le_trans (m := _) ?_ (Nat.add_le_add_left z44 _)
            obtain ⟨_, _, _, z45, h⟩ := mBA_some h
            have z45 := ML_number z45
            refine Nat.le_trans (m := _) ?_ (Nat.add_le_add_right z45 _)
            rcases mIf_some h with ⟨_, h⟩ | ⟨_, h⟩
            · obtain ⟨_, _, _, z46, h⟩ := mBA_some h
              have z46 := ML_rowSum z46
              refine Nat.le_trans (m := _) ?_ (Nat.add_le_add_left z46 _)
              obtain ⟨_, _, _, z47, h⟩ := mBA_some h
              have z47 := ML_rowSum z47
              refine Nat.le_trans (m := _) ?_ (Nat.add_le_add_right z47 _)
              rcases mIf_some h with ⟨_, h⟩ | ⟨_, h⟩
              · obtain ⟨_, _, h⟩ := mLt_some h
                exact ihM.1 _ _ _ _ _ h
              · cases h
                exact Nat.le_refl _
            · cases h
              exact Nat.le_refl _
          · cases h
            exact Nat.le_refl _
        refine ⟨(mP Lm - mP L46) / 16, mP Lm - mP L46, by omega, by omega, ?_⟩
        refine LL_answer hv45 Q40 rfl rfl (by omega) (by omega) (fun S46 Q46 F46 => ?_)
        obtain ⟨R46, D46, G46⟩ := mOut_b R40 D40 F46 G40
        obtain ⟨v50, L51, V51, hv50, h⟩ := mBA_some h
        have mv50 : mP L51 ≤ mP L40 := ML_answer hv50
        have qv50 : mP Ln1 + mP Lm1 ≤ mP L51 + mP L46 := by
          have ihM := ML_isAnew_go (G := G) (F := F) (v := v) (Ln1 := Ln1) (Lm1 := Lm1) (V1 := V1) (U1 := U1) k'
          rcases mIf_some h with ⟨_, h⟩ | ⟨_, h⟩
          · obtain ⟨_, _, _, z48, h⟩ := mBA_some h
            have z48 := ML_number z48
            refine Nat.le_trans (m := _) ?_ (Nat.add_le_add_left z48 _)
            obtain ⟨_, _, _, z49, h⟩ := mBA_some h
            have z49 := ML_number z49
            refine Nat.le_trans (m := _) ?_ (Nat.add_le_add_right z49 _)
            rcases mIf_some h with ⟨_, h⟩ | ⟨_, h⟩
            · obtain ⟨_, _, _, z50, h⟩ := mBA_some h
              have z50 := ML_rowSum z50
              refine Nat.le_trans (m := _) ?_ (Nat.add_le_add_left z50 _)
              obtain ⟨_, _, _, z51, h⟩ := mBA_some h
              have z51 := ML_rowSum z51
              refine Nat.le_trans (m := _) ?_ (Nat.add_le_add_right z51 _)
              rcases mIf_some h with ⟨_, h⟩ | ⟨_, h⟩
              · obtain ⟨_, _, h⟩ := mLt_some h
                exact ihM.1 _ _ _ _ _ h
              · cases h
                exact Nat.le_refl _
            · cases h
              exact Nat.le_refl _
          · cases h
            exact Nat.le_refl _
        refine ⟨(mP L40 - mP L51) / 16, mP L40 - mP L51, by omega, by omega, ?_⟩
        refine LL_answer hv50 R46 rfl rfl (by omega) (by omega) (fun S51 R51 F51 => ?_)
        obtain ⟨Q51, D51, G51⟩ := mOut_a Q46 D46 F51 G46
        refine mIf h Iff.rfl (fun c52 h => ?_) (fun c52 h => ?_)
        · obtain ⟨v56, L57, V57, hv56, h⟩ := mBA_some h
          have mv56 : mP L57 ≤ mP L46 := ML_number hv56
          have qv56 : mP Ln1 + mP Lm1 ≤ mP L51 + mP L57 := by
            have ihM := ML_isAnew_go (G := G) (F := F) (v := v) (Ln1 := Ln1) (Lm1 := Lm1) (V1 := V1) (U1 := U1) k'
            obtain ⟨_, _, _, z53, h⟩ := mBA_some h
            have z53 := ML_number z53
            refine Nat.le_trans (m := _) ?_ (Nat.add_le_add_right z53 _)
            rcases mIf_some h with ⟨_, h⟩ | ⟨_, h⟩
            · obtain ⟨_, _, _, z54, h⟩ := mBA_some h
              have z54 := ML_rowSum z54
              refine Nat.le_trans (m := _) ?_ (Nat.add_le_add_left z54 _)
              obtain ⟨_, _, _, z55, h⟩ := mBA_some h
              have z55 := ML_rowSum z55
              refine Nat.le_trans (m := _) ?_ (Nat.add_le_add_right z55 _)
              rcases mIf_some h with ⟨_, h⟩ | ⟨_, h⟩
              · obtain ⟨_, _, h⟩ := mLt_some h
                exact ihM.1 _ _ _ _ _ h
              · cases h
                exact Nat.le_refl _
            · cases h
              exact Nat.le_refl _
          refine ⟨(mP L46 - mP L57) / 16, mP L46 - mP L57, by omega, by omega, ?_⟩
          refine LL_number hv56 Q51 rfl rfl (by omega) (by omega) (fun S57 Q57 F57 => ?_)
          obtain ⟨R57, D57, G57⟩ := mOut_b R51 D51 F57 G51
          obtain ⟨v61, L62, V62, hv61, h⟩ := mBA_some h
          have mv61 : mP L62 ≤ mP L51 := ML_number hv61
          have qv61 : mP Ln1 + mP Lm1 ≤ mP L62 + mP L57 := by
            have ihM := ML_isAnew_go (G := G) (F := F) (v := v) (Ln1 := Ln1) (Lm1 := Lm1) (V1 := V1) (U1 := U1) k'
            rcases mIf_some h with ⟨_, h⟩ | ⟨_, h⟩
            · obtain ⟨_, _, _, z56, h⟩ := mBA_some h
              have z56 := ML_rowSum z56
              refine Nat.le_trans (m := _) ?_ (Nat.add_le_add_left z56 _)
              obtain ⟨_, _, _, z57, h⟩ := mBA_some h
              have z57 := ML_rowSum z57
              refine Nat.le_trans (m := _) ?_ (Nat.add_le_add_right z57 _)
              rcases mIf_some h with ⟨_, h⟩ | ⟨_, h⟩
              · obtain ⟨_, _, h⟩ := mLt_some h
                exact ihM.1 _ _ _ _ _ h
              · cases h
                exact Nat.le_refl _
            · cases h
              exact Nat.le_refl _
          refine ⟨(mP L51 - mP L62) / 16, mP L51 - mP L62, by omega, by omega, ?_⟩
          refine LL_number hv61 R57 rfl rfl (by omega) (by omega) (fun S62 R62 F62 => ?_)
          obtain ⟨Q62, D62, G62⟩ := mOut_a Q57 D57 F62 G57
          refine mIf h Iff.rfl (fun c58 h => ?_) (fun c58 h => ?_)
          · obtain ⟨v67, L68, V68, hv67, h⟩ := mBA_some h
            have mv67 : mP L68 ≤ mP L57 := ML_rowSum hv67
            have qv67 : mP Ln1 + mP Lm1 ≤ mP L62 + mP L68 := by
              have ihM := ML_isAnew_go (G := G) (F := F) (v := v) (Ln1 := Ln1) (Lm1 := Lm1) (V1 := V1) (U1 := U1) k'
              obtain ⟨_, _, _, z59, h⟩ := mBA_some h
              have z59 := ML_rowSum z59
              refine Nat.le_trans (m := _) ?_ (Nat.add_le_add_right z59 _)
              rcases mIf_some h with ⟨_, h⟩ | ⟨_, h⟩
              · obtain ⟨_, _, h⟩ := mLt_some h
                exact ihM.1 _ _ _ _ _ h
              · cases h
                exact Nat.le_refl _
            refine ⟨(mP L57 - mP L68) / 16, mP L57 - mP L68, by omega, by omega, ?_⟩
            refine LL_rowSum hv67 Q62 rfl rfl (by omega) (by omega) (fun S68 Q68 F68 => ?_)
            obtain ⟨R68, D68, G68⟩ := mOut_b R62 D62 F68 G62
            obtain ⟨v72, L73, V73, hv72, h⟩ := mBA_some h
            have mv72 : mP L73 ≤ mP L62 := ML_rowSum hv72
            have qv72 : mP Ln1 + mP Lm1 ≤ mP L73 + mP L68 := by
              have ihM := ML_isAnew_go (G := G) (F := F) (v := v) (Ln1 := Ln1) (Lm1 := Lm1) (V1 := V1) (U1 := U1) k'
              rcases mIf_some h with ⟨_, h⟩ | ⟨_, h⟩
              · obtain ⟨_, _, h⟩ := mLt_some h
                exact ihM.1 _ _ _ _ _ h
              · cases h
                exact Nat.le_refl _
            refine ⟨(mP L62 - mP L73) / 16, mP L62 - mP L73, by omega, by omega, ?_⟩
            refine LL_rowSum hv72 R68 rfl rfl (by omega) (by omega) (fun S73 R73 F73 => ?_)
            obtain ⟨Q73, D73, G73⟩ := mOut_a Q68 D68 F73 G68
            refine mIf h Iff.rfl (fun c60 h => ?_) (fun c60 h => ?_)
            · refine mLet h rfl (fun x78 ex78 h => ?_)
              exact ih.1 _ _ _ _ _ _ _ _ R73 Q73 D73 G73 h (by omega) (by omega)
            · obtain ⟨rfl, rfl, rfl, rfl, rfl⟩ := mRA5 h
              exact k _ R73 G73
          · obtain ⟨rfl, rfl, rfl, rfl, rfl⟩ := mRA5 h
            exact k _ R62 G62
        · obtain ⟨rfl, rfl, rfl, rfl, rfl⟩ := mRA5 h
          exact k _ R51 G51
      · obtain ⟨v79, L80, V80, hv79, h⟩ := mBA_some h
        have mv79 : mP L80 ≤ mP L40 := ML_item hv79
        have qv79 : mP Ln1 + mP Lm1 ≤ mP L80 + mP Lm := by
          have ihM := ML_isAnew_go (G := G) (F := F) (v := v) (Ln1 := Ln1) (Lm1 := Lm1) (V1 := V1) (U1 := U1) k'
          obtain ⟨_, _, _, z61, h⟩ := mBA_some h
          have z61 := ML_item z61
          refine Nat.le_trans (m := _) ?_ (Nat.add_le_add_right z61 _)
          obtain ⟨_, _, _, z62, h⟩ := mBA_some h
          have z62 := ML_item z62
          refine Nat.le_trans (m := _) ?_ (Nat.add_le_add_right z62 _)
          obtain ⟨_, _, _, z63, h⟩ := mBA_some h
          have z63 := ML_item z63
          refine Nat.le_trans (m := _) ?_ (Nat.add_le_add_right z63 _)
          obtain ⟨_, _, _, z64, h⟩ := mBA_some h
          have z64 := ML_item z64
          refine Nat.le_trans (m := _) ?_ (Nat.add_le_add_right z64 _)
          obtain ⟨_, _, _, z65, h⟩ := mBA_some h
          have z65 := ML_put z65
          refine Nat.le_trans (m := _) ?_ (Nat.add_le_add_left z65 _)
          rcases mIf_some h with ⟨_, h⟩ | ⟨_, h⟩
          · obtain ⟨_, _, h⟩ := mLt_some h
            exact ihM.2 _ _ _ _ _ _ h
          · cases h
            exact Nat.le_refl _
        refine ⟨(mP L40 - mP L80) / 16, mP L40 - mP L80, by omega, by omega, ?_⟩
        refine LL_item hv79 R40 rfl rfl rfl rfl (by omega) (by omega) (fun S80 R80 F80 => ?_)
        obtain ⟨Q80, D80, G80⟩ := mOut_a Q40 D40 F80 G40
        obtain ⟨v84, L85, V85, hv84, h⟩ := mBA_some h
        have mv84 : mP L85 ≤ mP L80 := ML_item hv84
        have qv84 : mP Ln1 + mP Lm1 ≤ mP L85 + mP Lm := by
          have ihM := ML_isAnew_go (G := G) (F := F) (v := v) (Ln1 := Ln1) (Lm1 := Lm1) (V1 := V1) (U1 := U1) k'
          obtain ⟨_, _, _, z66, h⟩ := mBA_some h
          have z66 := ML_item z66
          refine Nat.le_trans (m := _) ?_ (Nat.add_le_add_right z66 _)
          obtain ⟨_, _, _, z67, h⟩ := mBA_some h
          have z67 := ML_item z67
          refine Nat.le_trans (m := _) ?_ (Nat.add_le_add_right z67 _)
          obtain ⟨_, _, _, z68, h⟩ := mBA_some h
          have z68 := ML_item z68
          refine Nat.le_trans (m := _) ?_ (Nat.add_le_add_right z68 _)
          obtain ⟨_, _, _, z69, h⟩ := mBA_some h
          have z69 := ML_put z69
          refine Nat.le_trans (m := _) ?_ (Nat.add_le_add_left z69 _)
          rcases mIf_some h with ⟨_, h⟩ | ⟨_, h⟩
          · obtain ⟨_, _, h⟩ := mLt_some h
            exact ihM.2 _ _ _ _ _ _ h
          · cases h
            exact Nat.le_refl _
        refine ⟨(mP L80 - mP L85) / 16, mP L80 - mP L85, by omega, by omega, ?_⟩
        refine LL_item hv84 R80 rfl rfl rfl rfl (by omega) (by omega) (fun S85 R85 F85 => ?_)
        obtain ⟨Q85, D85, G85⟩ := mOut_a Q80 D80 F85 G80
        obtain ⟨v89, L90, V90, hv89, h⟩ := mBA_some h
        have mv89 : mP L90 ≤ mP L85 := ML_item hv89
        have qv89 : mP Ln1 + mP Lm1 ≤ mP L90 + mP Lm := by
          have ihM := ML_isAnew_go (G := G) (F := F) (v := v) (Ln1 := Ln1) (Lm1 := Lm1) (V1 := V1) (U1 := U1) k'
          obtain ⟨_, _, _, z70, h⟩ := mBA_some h
          have z70 := ML_item z70
          refine Nat.le_trans (m := _) ?_ (Nat.add_le_add_right z70 _)
          obtain ⟨_, _, _, z71, h⟩ := mBA_some h
          have z71 := ML_item z71
          refine Nat.le_trans (m := _) ?_ (Nat.add_le_add_right z71 _)
          obtain ⟨_, _, _, z72, h⟩ := mBA_some h
          have z72 := ML_put z72
          refine Nat.le_trans (m := _) ?_ (Nat.add_le_add_left z72 _)
          rcases mIf_some h with ⟨_, h⟩ | ⟨_, h⟩
          · obtain ⟨_, _, h⟩ := mLt_some h
            exact ihM.2 _ _ _ _ _ _ h
          · cases h
            exact Nat.le_refl _
        refine ⟨(mP L85 - mP L90) / 16, mP L85 - mP L90, by omega, by omega, ?_⟩
        refine LL_item hv89 R85 rfl rfl rfl rfl (by omega) (by omega) (fun S90 R90 F90 => ?_)
        obtain ⟨Q90, D90, G90⟩ := mOut_a Q85 D85 F90 G85
        obtain ⟨v94, L95, V95, hv94, h⟩ := mBA_some h
        have mv94 : mP L95 ≤ mP L90 := ML_item hv94
        have qv94 : mP Ln1 + mP Lm1 ≤ mP L95 + mP Lm := by
          have ihM := ML_isAnew_go (G := G) (F := F) (v := v) (Ln1 := Ln1) (Lm1 := Lm1) (V1 := V1) (U1 := U1) k'
          obtain ⟨_, _, _, z73, h⟩ := mBA_some h
          have z73 := ML_item z73
          refine Nat.le_trans (m := _) ?_ (Nat.add_le_add_right z73 _)
          obtain ⟨_, _, _, z74, h⟩ := mBA_some h
          have z74 := ML_put z74
          refine Nat.le_trans (m := _) ?_ (Nat.add_le_add_left z74 _)
          rcases mIf_some h with ⟨_, h⟩ | ⟨_, h⟩
          · obtain ⟨_, _, h⟩ := mLt_some h
            exact ihM.2 _ _ _ _ _ _ h
          · cases h
            exact Nat.le_refl _
        refine ⟨(mP L90 - mP L95) / 16, mP L90 - mP L95, by omega, by omega, ?_⟩
        refine LL_item hv94 R90 rfl rfl rfl rfl (by omega) (by omega) (fun S95 R95 F95 => ?_)
        obtain ⟨Q95, D95, G95⟩ := mOut_a Q90 D90 F95 G90
        obtain ⟨v99, L100, V100, hv99, h⟩ := mBA_some h
        have mv99 : mP L100 ≤ mP L95 := ML_item hv99
        have qv99 : mP Ln1 + mP Lm1 ≤ mP L100 + mP Lm := by
          have ihM := ML_isAnew_go (G := G) (F := F) (v := v) (Ln1 := Ln1) (Lm1 := Lm1) (V1 := V1) (U1 := U1) k'
          obtain ⟨_, _, _, z75, h⟩ := mBA_some h
          have z75 := ML_put z75
          refine Nat.le_trans (m := _) ?_ (Nat.add_le_add_left z75 _)
          rcases mIf_some h with ⟨_, h⟩ | ⟨_, h⟩
          · obtain ⟨_, _, h⟩ := mLt_some h
            exact ihM.2 _ _ _ _ _ _ h
          · cases h
            exact Nat.le_refl _
        refine ⟨(mP L95 - mP L100) / 16, mP L95 - mP L100, by omega, by omega, ?_⟩
        refine LL_item hv99 R95 rfl rfl rfl rfl (by omega) (by omega) (fun S100 R100 F100 => ?_)
        obtain ⟨Q100, D100, G100⟩ := mOut_a Q95 D95 F100 G95
        obtain ⟨v104, L105, V105, hv104, h⟩ := mBA_some h
        have mv104 : mP L105 ≤ mP Lm := ML_put hv104
        have qv104 : mP Ln1 + mP Lm1 ≤ mP L100 + mP L105 := by
          have ihM := ML_isAnew_go (G := G) (F := F) (v := v) (Ln1 := Ln1) (Lm1 := Lm1) (V1 := V1) (U1 := U1) k'
          rcases mIf_some h with ⟨_, h⟩ | ⟨_, h⟩
          · obtain ⟨_, _, h⟩ := mLt_some h
            exact ihM.2 _ _ _ _ _ _ h
          · cases h
            exact Nat.le_refl _
        refine ⟨(mP Lm - mP L105) / 16, mP Lm - mP L105, by omega, by omega, ?_⟩
        refine LL_put hv104 Q100 rfl rfl rfl rfl rfl rfl rfl (by omega) (by omega) (fun S105 Q105 F105 => ?_)
        obtain ⟨R105, D105, G105⟩ := mOut_b R100 D100 F105 G100
        refine mIf h Iff.rfl (fun c76 h => ?_) (fun c76 h => ?_)
        · refine mLet h rfl (fun x110 ex110 h => ?_)
          exact ih.2 _ _ _ _ _ _ _ _ _ R105 Q105 D105 G105 h (by omega) (by omega)
        · obtain ⟨rfl, rfl, rfl, rfl, rfl⟩ := mRA5 h
          exact k _ R105 G105
end
