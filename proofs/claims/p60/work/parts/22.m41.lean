/-! LIFTED BY PROGRAM (lift.py): L_isCarried. -/
section
def mL_isCarried (G : wkG) (F : Nat) (Ln : Nat → Nat) (l1I : Int32) (l2I : Int32) (V : mV) : Option (Int32 × (Nat → Nat) × mV) :=
  (mBA (mL_carry G F Ln (l1I) (l2I) V) fun v1 L2 V2 => (if 0 ≤ (lg_cmp v1 (0 : Int64)) then (mBA (mL_answer G F L2 (l1I) V2) fun v7 L8 V8 => (mBN (mL_entries G F V8) fun v12 => (if (lg_cmp v1 (v12 - (1 : Int64))) = 0 then (mBA (mL_cameFrom G F L8 ((Int64.toInt32 v1)) V8) fun v18 L19 V19 => (if (lg_cmp v18 (Int32.toInt64 l1I)) = 0 then (mBA (mL_answer G F L19 ((Int64.toInt32 v1)) V19) fun v24 L25 V25 => (if (lg_cmp v24 v7) = 0 then (mBA (mL_bring G F L25 ((Int64.toInt32 v1)) V25) fun v30 L31 V31 => (if 0 ≤ (lg_cmp v30 (0 : Int64)) then (if (lg_cmp v7 (121 : Int64)) = 0 then (mBA (mL_check G F L31 (l1I) ((1 : Int32)) V31) fun v43 L44 V44 => (if (lg_cmp v43 (0 : Int64)) = 0 then some ((1 : Int32), L44, V44) else some ((0 : Int32), L44, V44))) else (mBA (mL_check G F L31 (l1I) ((0 : Int32)) V31) fun v37 L38 V38 => (if (lg_cmp v37 (0 : Int64)) = 0 then some ((1 : Int32), L38, V38) else some ((0 : Int32), L38, V38)))) else (if (lg_cmp v30 (-4000000000000000002 : Int64)) = 0 then (if l2I = (102 : Int32) then (if 0 ≤ (lg_cmp v7 (0 : Int64)) then some ((0 : Int32), L31, V31) else some ((1 : Int32), L31, V31)) else some ((1 : Int32), L31, V31)) else some ((0 : Int32), L31, V31)))) else some ((0 : Int32), L25, V25))) else some ((0 : Int32), L19, V19))) else some ((0 : Int32), L8, V8)))) else (if (lg_cmp v1 (-4000000000000000003 : Int64)) = 0 then some ((1 : Int32), L2, V2) else (if (lg_cmp v1 (-4000000000000000004 : Int64)) = 0 then some ((1 : Int32), L2, V2) else some ((0 : Int32), L2, V2)))))
set_option maxHeartbeats 4000000 in
set_option maxRecDepth 100000 in
theorem ML_isCarried {G : wkG} {F : Nat} {Ln Ln1 : Nat → Nat} {V V1 : mV} {v : Int32} {l1I : Int32} {l2I : Int32} (h : mL_isCarried G F Ln l1I l2I V = some (v, Ln1, V1)) : mP Ln1 ≤ mP Ln := by
  unfold mL_isCarried at h
  obtain ⟨_, _, _, z1, h⟩ := mBA_some h
  refine Nat.le_trans ?_ (ML_carry z1)
  rcases mIf_some h with ⟨_, h⟩ | ⟨_, h⟩
  · obtain ⟨_, _, _, z2, h⟩ := mBA_some h
    refine Nat.le_trans ?_ (ML_answer z2)
    obtain ⟨_, _, h⟩ := mBN_some h
    rcases mIf_some h with ⟨_, h⟩ | ⟨_, h⟩
    · obtain ⟨_, _, _, z3, h⟩ := mBA_some h
      refine Nat.le_trans ?_ (ML_cameFrom z3)
      rcases mIf_some h with ⟨_, h⟩ | ⟨_, h⟩
      · obtain ⟨_, _, _, z4, h⟩ := mBA_some h
        refine Nat.le_trans ?_ (ML_answer z4)
        rcases mIf_some h with ⟨_, h⟩ | ⟨_, h⟩
        · obtain ⟨_, _, _, z5, h⟩ := mBA_some h
          refine Nat.le_trans ?_ (ML_bring z5)
          rcases mIf_some h with ⟨_, h⟩ | ⟨_, h⟩
          · rcases mIf_some h with ⟨_, h⟩ | ⟨_, h⟩
            · obtain ⟨_, _, _, z6, h⟩ := mBA_some h
              refine Nat.le_trans ?_ (ML_check z6)
              rcases mIf_some h with ⟨_, h⟩ | ⟨_, h⟩
              · cases h
                exact Nat.le_refl _
              · cases h
                exact Nat.le_refl _
            · obtain ⟨_, _, _, z7, h⟩ := mBA_some h
              refine Nat.le_trans ?_ (ML_check z7)
              rcases mIf_some h with ⟨_, h⟩ | ⟨_, h⟩
              · cases h
                exact Nat.le_refl _
              · cases h
                exact Nat.le_refl _
          · rcases mIf_some h with ⟨_, h⟩ | ⟨_, h⟩
            · rcases mIf_some h with ⟨_, h⟩ | ⟨_, h⟩
              · rcases mIf_some h with ⟨_, h⟩ | ⟨_, h⟩
                · cases h
                  exact Nat.le_refl _
                · cases h
                  exact Nat.le_refl _
              · cases h
                exact Nat.le_refl _
            · cases h
              exact Nat.le_refl _
        · cases h
          exact Nat.le_refl _
      · cases h
        exact Nat.le_refl _
    · cases h
      exact Nat.le_refl _
  · rcases mIf_some h with ⟨_, h⟩ | ⟨_, h⟩
    · cases h
      exact Nat.le_refl _
    · rcases mIf_some h with ⟨_, h⟩ | ⟨_, h⟩
      · cases h
        exact Nat.le_refl _
      · cases h
        exact Nat.le_refl _
set_option maxHeartbeats 4000000 in
set_option maxRecDepth 100000 in
theorem LL_isCarried {G : wkG} {α : Nat → Nat} {F : Nat} {S : wPS} {Ln Ln1 : Nat → Nat} {V V1 : mV} {v : Int32} {Φ : (Int32 → wPS → Prop)} {l0Ax : Nat} {l1Ix l1I : Int32} {l2Ix l2I : Int32} {k0 n0 : Nat} (h : mL_isCarried G F Ln l1I l2I V = some (v, Ln1, V1)) (R : mRel α S Ln V) (el0A : l0Ax = α 0) (el1I : l1Ix = l1I) (el2I : l2Ix = l2I) (hk : (mP Ln - mP Ln1) / 16 ≤ k0) (hn : mP Ln - mP Ln1 ≤ n0) (k : (∀ S1, mRel α S1 Ln1 V1 → mFr α S S1 → Φ v S1)) : rL_isCarried G F k0 n0 l0Ax l1Ix l2Ix S Φ := by
  have el0A := el0A.symm
  subst el0A
  have el1I := el1I.symm
  subst el1I
  have el2I := el2I.symm
  subst el2I
  unfold mL_isCarried at h
  unfold rL_isCarried
  obtain ⟨v1, L2, V2, hv1, h⟩ := mBA_some h
  have mv1 : mP L2 ≤ mP Ln := ML_carry hv1
  have qv1 : mP Ln1 ≤ mP L2 := by
    rcases mIf_some h with ⟨_, h⟩ | ⟨_, h⟩
    · obtain ⟨_, _, _, z8, h⟩ := mBA_some h
      refine Nat.le_trans ?_ (ML_answer z8)
      obtain ⟨_, _, h⟩ := mBN_some h
      rcases mIf_some h with ⟨_, h⟩ | ⟨_, h⟩
      · obtain ⟨_, _, _, z9, h⟩ := mBA_some h
        refine Nat.le_trans ?_ (ML_cameFrom z9)
        rcases mIf_some h with ⟨_, h⟩ | ⟨_, h⟩
        · obtain ⟨_, _, _, z10, h⟩ := mBA_some h
          refine Nat.le_trans ?_ (ML_answer z10)
          rcases mIf_some h with ⟨_, h⟩ | ⟨_, h⟩
          · obtain ⟨_, _, _, z11, h⟩ := mBA_some h
            refine Nat.le_trans ?_ (ML_bring z11)
            rcases mIf_some h with ⟨_, h⟩ | ⟨_, h⟩
            · rcases mIf_some h with ⟨_, h⟩ | ⟨_, h⟩
              · obtain ⟨_, _, _, z12, h⟩ := mBA_some h
                refine Nat.le_trans ?_ (ML_check z12)
                rcases mIf_some h with ⟨_, h⟩ | ⟨_, h⟩
                · cases h
                  exact Nat.le_refl _
                · cases h
                  exact Nat.le_refl _
              · obtain ⟨_, _, _, z13, h⟩ := mBA_some h
                refine Nat.le_trans ?_ (ML_check z13)
                rcases mIf_some h with ⟨_, h⟩ | ⟨_, h⟩
                · cases h
                  exact Nat.le_refl _
                · cases h
                  exact Nat.le_refl _
            · rcases mIf_some h with ⟨_, h⟩ | ⟨_, h⟩
              · rcases mIf_some h with ⟨_, h⟩ | ⟨_, h⟩
                · rcases mIf_some h with ⟨_, h⟩ | ⟨_, h⟩
                  · cases h
                    exact Nat.le_refl _
                  · cases h
                    exact Nat.le_refl _
                · cases h
                  exact Nat.le_refl _
              · cases h
                exact Nat.le_refl _
          · cases h
            exact Nat.le_refl _
        · cases h
          exact Nat.le_refl _
      · cases h
        exact Nat.le_refl _
    · rcases mIf_some h with ⟨_, h⟩ | ⟨_, h⟩
      · cases h
        exact Nat.le_refl _
      · rcases mIf_some h with ⟨_, h⟩ | ⟨_, h⟩
        · cases h
          exact Nat.le_refl _
        · cases h
          exact Nat.le_refl _
  refine ⟨(mP Ln - mP L2) / 16, mP Ln - mP L2, by omega, by omega, ?_⟩
  refine LL_carry hv1 R rfl rfl rfl (by omega) (by omega) (fun S2 R2 F2 => ?_)
  refine mIf h Iff.rfl (fun c14 h => ?_) (fun c14 h => ?_)
  · obtain ⟨v7, L8, V8, hv7, h⟩ := mBA_some h
    have mv7 : mP L8 ≤ mP L2 := ML_answer hv7
    have qv7 : mP Ln1 ≤ mP L8 := by
      obtain ⟨_, _, h⟩ := mBN_some h
      rcases mIf_some h with ⟨_, h⟩ | ⟨_, h⟩
      · obtain ⟨_, _, _, z15, h⟩ := mBA_some h
        refine Nat.le_trans ?_ (ML_cameFrom z15)
        rcases mIf_some h with ⟨_, h⟩ | ⟨_, h⟩
        · obtain ⟨_, _, _, z16, h⟩ := mBA_some h
          refine Nat.le_trans ?_ (ML_answer z16)
          rcases mIf_some h with ⟨_, h⟩ | ⟨_, h⟩
          · obtain ⟨_, _, _, z17, h⟩ := mBA_some h
            refine Nat.le_trans ?_ (ML_bring z17)
            rcases mIf_some h with ⟨_, h⟩ | ⟨_, h⟩
            · rcases mIf_some h with ⟨_, h⟩ | ⟨_, h⟩
              · obtain ⟨_, _, _, z18, h⟩ := mBA_some h
                refine Nat.le_trans ?_ (ML_check z18)
                rcases mIf_some h with ⟨_, h⟩ | ⟨_, h⟩
                · cases h
                  exact Nat.le_refl _
                · cases h
                  exact Nat.le_refl _
              · obtain ⟨_, _, _, z19, h⟩ := mBA_some h
                refine Nat.le_trans ?_ (ML_check z19)
                rcases mIf_some h with ⟨_, h⟩ | ⟨_, h⟩
                · cases h
                  exact Nat.le_refl _
                · cases h
                  exact Nat.le_refl _
            · rcases mIf_some h with ⟨_, h⟩ | ⟨_, h⟩
              · rcases mIf_some h with ⟨_, h⟩ | ⟨_, h⟩
                · rcases mIf_some h with ⟨_, h⟩ | ⟨_, h⟩
                  · cases h
                    exact Nat.le_refl _
                  · cases h
                    exact Nat.le_refl _
                · cases h
                  exact Nat.le_refl _
              · cases h
                exact Nat.le_refl _
          · cases h
            exact Nat.le_refl _
        · cases h
          exact Nat.le_refl _
      · cases h
        exact Nat.le_refl _
    refine ⟨(mP L2 - mP L8) / 16, mP L2 - mP L8, by omega, by omega, ?_⟩
    refine LL_answer hv7 R2 rfl rfl (by omega) (by omega) (fun S8 R8 F8 => ?_)
    obtain ⟨v12, hv12, h⟩ := mBN_some h
    refine LL_entries hv12 R8 rfl ?_
    refine mIf h Iff.rfl (fun c20 h => ?_) (fun c20 h => ?_)
    · obtain ⟨v18, L19, V19, hv18, h⟩ := mBA_some h
      have mv18 : mP L19 ≤ mP L8 := ML_cameFrom hv18
      have qv18 : mP Ln1 ≤ mP L19 := by
        rcases mIf_some h with ⟨_, h⟩ | ⟨_, h⟩
        · obtain ⟨_, _, _, z21, h⟩ := mBA_some h
          refine Nat.le_trans ?_ (ML_answer z21)
          rcases mIf_some h with ⟨_, h⟩ | ⟨_, h⟩
          · obtain ⟨_, _, _, z22, h⟩ := mBA_some h
            refine Nat.le_trans ?_ (ML_bring z22)
            rcases mIf_some h with ⟨_, h⟩ | ⟨_, h⟩
            · rcases mIf_some h with ⟨_, h⟩ | ⟨_, h⟩
              · obtain ⟨_, _, _, z23, h⟩ := mBA_some h
                refine Nat.le_trans ?_ (ML_check z23)
                rcases mIf_some h with ⟨_, h⟩ | ⟨_, h⟩
                · cases h
                  exact Nat.le_refl _
                · cases h
                  exact Nat.le_refl _
              · obtain ⟨_, _, _, z24, h⟩ := mBA_some h
                refine Nat.le_trans ?_ (ML_check z24)
                rcases mIf_some h with ⟨_, h⟩ | ⟨_, h⟩
                · cases h
                  exact Nat.le_refl _
                · cases h
                  exact Nat.le_refl _
            · rcases mIf_some h with ⟨_, h⟩ | ⟨_, h⟩
              · rcases mIf_some h with ⟨_, h⟩ | ⟨_, h⟩
                · rcases mIf_some h with ⟨_, h⟩ | ⟨_, h⟩
                  · cases h
                    exact Nat.le_refl _
                  · cases h
                    exact Nat.le_refl _
                · cases h
                  exact Nat.le_refl _
              · cases h
                exact Nat.le_refl _
          · cases h
            exact Nat.le_refl _
        · cases h
          exact Nat.le_refl _
      refine ⟨(mP L8 - mP L19) / 16, mP L8 - mP L19, by omega, by omega, ?_⟩
      refine LL_cameFrom hv18 R8 rfl rfl (by omega) (by omega) (fun S19 R19 F19 => ?_)
      refine mIf h Iff.rfl (fun c25 h => ?_) (fun c25 h => ?_)
      · obtain ⟨v24, L25, V25, hv24, h⟩ := mBA_some h
        have mv24 : mP L25 ≤ mP L19 := ML_answer hv24
        have qv24 : mP Ln1 ≤ mP L25 := by
          rcases mIf_some h with ⟨_, h⟩ | ⟨_, h⟩
          · obtain ⟨_, _, _, z26, h⟩ := mBA_some h
            refine Nat.le_trans ?_ (ML_bring z26)
            rcases mIf_some h with ⟨_, h⟩ | ⟨_, h⟩
            · rcases mIf_some h with ⟨_, h⟩ | ⟨_, h⟩
              · obtain ⟨_, _, _, z27, h⟩ := mBA_some h
                refine Nat.le_trans ?_ (ML_check z27)
                rcases mIf_some h with ⟨_, h⟩ | ⟨_, h⟩
                · cases h
                  exact Nat.le_refl _
                · cases h
                  exact Nat.le_refl _
              · obtain ⟨_, _, _, z28, h⟩ := mBA_some h
                refine Nat.le_trans ?_ (ML_check z28)
                rcases mIf_some h with ⟨_, h⟩ | ⟨_, h⟩
                · cases h
                  exact Nat.le_refl _
                · cases h
                  exact Nat.le_refl _
            · rcases mIf_some h with ⟨_, h⟩ | ⟨_, h⟩
              · rcases mIf_some h with ⟨_, h⟩ | ⟨_, h⟩
                · rcases mIf_some h with ⟨_, h⟩ | ⟨_, h⟩
                  · cases h
                    exact Nat.le_refl _
                  · cases h
                    exact Nat.le_refl _
                · cases h
                  exact Nat.le_refl _
              · cases h
                exact Nat.le_refl _
          · cases h
            exact Nat.le_refl _
        refine ⟨(mP L19 - mP L25) / 16, mP L19 - mP L25, by omega, by omega, ?_⟩
        refine LL_answer hv24 R19 rfl rfl (by omega) (by omega) (fun S25 R25 F25 => ?_)
        refine mIf h Iff.rfl (fun c29 h => ?_) (fun c29 h => ?_)
        · obtain ⟨v30, L31, V31, hv30, h⟩ := mBA_some h
          have mv30 : mP L31 ≤ mP L25 := ML_bring hv30
          have qv30 : mP Ln1 ≤ mP L31 := by
            rcases mIf_some h with ⟨_, h⟩ | ⟨_, h⟩
            · rcases mIf_some h with ⟨_, h⟩ | ⟨_, h⟩
              · obtain ⟨_, _, _, z30, h⟩ := mBA_some h
                refine Nat.le_trans ?_ (ML_check z30)
                rcases mIf_some h with ⟨_, h⟩ | ⟨_, h⟩
                · cases h
                  exact Nat.le_refl _
                · cases h
                  exact Nat.le_refl _
              · obtain ⟨_, _, _, z31, h⟩ := mBA_some h
                refine Nat.le_trans ?_ (ML_check z31)
                rcases mIf_some h with ⟨_, h⟩ | ⟨_, h⟩
                · cases h
                  exact Nat.le_refl _
                · cases h
                  exact Nat.le_refl _
            · rcases mIf_some h with ⟨_, h⟩ | ⟨_, h⟩
              · rcases mIf_some h with ⟨_, h⟩ | ⟨_, h⟩
                · rcases mIf_some h with ⟨_, h⟩ | ⟨_, h⟩
                  · cases h
                    exact Nat.le_refl _
                  · cases h
                    exact Nat.le_refl _
                · cases h
                  exact Nat.le_refl _
              · cases h
                exact Nat.le_refl _
          refine ⟨(mP L25 - mP L31) / 16, mP L25 - mP L31, by omega, by omega, ?_⟩
          refine LL_bring hv30 R25 rfl rfl (by omega) (by omega) (fun S31 R31 F31 => ?_)
          refine mIf h Iff.rfl (fun c32 h => ?_) (fun c32 h => ?_)
          · refine mIf h Iff.rfl (fun c33 h => ?_) (fun c33 h => ?_)
            · obtain ⟨v43, L44, V44, hv43, h⟩ := mBA_some h
              have mv43 : mP L44 ≤ mP L31 := ML_check hv43
              have qv43 : mP Ln1 ≤ mP L44 := by
                rcases mIf_some h with ⟨_, h⟩ | ⟨_, h⟩
                · cases h
                  exact Nat.le_refl _
                · cases h
                  exact Nat.le_refl _
              refine ⟨(mP L31 - mP L44) / 16, mP L31 - mP L44, by omega, by omega, ?_⟩
              refine LL_check hv43 R31 rfl rfl rfl (by omega) (by omega) (fun S44 R44 F44 => ?_)
              refine mIf h Iff.rfl (fun c34 h => ?_) (fun c34 h => ?_)
              · obtain ⟨rfl, rfl, rfl⟩ := mRA3 h
                exact k _ R44 (F2.tr (F8.tr (F19.tr (F25.tr (F31.tr F44)))))
              · obtain ⟨rfl, rfl, rfl⟩ := mRA3 h
                exact k _ R44 (F2.tr (F8.tr (F19.tr (F25.tr (F31.tr F44)))))
            · obtain ⟨v37, L38, V38, hv37, h⟩ := mBA_some h
              have mv37 : mP L38 ≤ mP L31 := ML_check hv37
              have qv37 : mP Ln1 ≤ mP L38 := by
                rcases mIf_some h with ⟨_, h⟩ | ⟨_, h⟩
                · cases h
                  exact Nat.le_refl _
                · cases h
                  exact Nat.le_refl _
              refine ⟨(mP L31 - mP L38) / 16, mP L31 - mP L38, by omega, by omega, ?_⟩
              refine LL_check hv37 R31 rfl rfl rfl (by omega) (by omega) (fun S38 R38 F38 => ?_)
              refine mIf h Iff.rfl (fun c35 h => ?_) (fun c35 h => ?_)
              · obtain ⟨rfl, rfl, rfl⟩ := mRA3 h
                exact k _ R38 (F2.tr (F8.tr (F19.tr (F25.tr (F31.tr F38)))))
              · obtain ⟨rfl, rfl, rfl⟩ := mRA3 h
                exact k _ R38 (F2.tr (F8.tr (F19.tr (F25.tr (F31.tr F38)))))
          · refine mIf h Iff.rfl (fun c36 h => ?_) (fun c36 h => ?_)
            · refine mIf h Iff.rfl (fun c37 h => ?_) (fun c37 h => ?_)
              · refine mIf h Iff.rfl (fun c38 h => ?_) (fun c38 h => ?_)
                · obtain ⟨rfl, rfl, rfl⟩ := mRA3 h
                  exact k _ R31 (F2.tr (F8.tr (F19.tr (F25.tr F31))))
                · obtain ⟨rfl, rfl, rfl⟩ := mRA3 h
                  exact k _ R31 (F2.tr (F8.tr (F19.tr (F25.tr F31))))
              · obtain ⟨rfl, rfl, rfl⟩ := mRA3 h
                exact k _ R31 (F2.tr (F8.tr (F19.tr (F25.tr F31))))
            · obtain ⟨rfl, rfl, rfl⟩ := mRA3 h
              exact k _ R31 (F2.tr (F8.tr (F19.tr (F25.tr F31))))
        · obtain ⟨rfl, rfl, rfl⟩ := mRA3 h
          exact k _ R25 (F2.tr (F8.tr (F19.tr F25)))
      · obtain ⟨rfl, rfl, rfl⟩ := mRA3 h
        exact k _ R19 (F2.tr (F8.tr F19))
    · obtain ⟨rfl, rfl, rfl⟩ := mRA3 h
      exact k _ R8 (F2.tr F8)
  · refine mIf h Iff.rfl (fun c39 h => ?_) (fun c39 h => ?_)
    · obtain ⟨rfl, rfl, rfl⟩ := mRA3 h
      exact k _ R2 F2
    · refine mIf h Iff.rfl (fun c40 h => ?_) (fun c40 h => ?_)
      · obtain ⟨rfl, rfl, rfl⟩ := mRA3 h
        exact k _ R2 F2
      · obtain ⟨rfl, rfl, rfl⟩ := mRA3 h
        exact k _ R2 F2
end
