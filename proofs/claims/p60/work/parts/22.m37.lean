/-! LIFTED BY PROGRAM (lift.py): L_person, L_wipe, L_drawn, L_pick, L_part, L_drop, L_sizeOf, L_items, L_item, L_cameFrom, L_type, L_alter. -/
section
def mL_person (G : wkG) (F : Nat) (Ln : Nat → Nat) (V : mV) : Option (Int64 × (Nat → Nat) × mV) :=
  (mBT (mX11_person F Ln V) (fun v1 L2 V2 => some ((Int32.toInt64 v1), L2, V2)) (fun E6 L7 V7 => (if E6 = "java/lang/IllegalStateException" then some ((-4000000000000000001 : Int64), L7, V7) else none)))
set_option maxHeartbeats 4000000 in
set_option maxRecDepth 100000 in
theorem ML_person {G : wkG} {F : Nat} {Ln Ln1 : Nat → Nat} {V V1 : mV} {v : Int64} (h : mL_person G F Ln V = some (v, Ln1, V1)) : mP Ln1 ≤ mP Ln := by
  unfold mL_person at h
  rcases mBT_some h with ⟨_, _, _, z1, h⟩ | ⟨_, _, _, z1, h⟩
  · refine Nat.le_trans ?_ (MX11_person z1)
    rcases mIf_some h with ⟨_, h⟩ | ⟨_, h⟩
    · cases h
      exact Nat.le_refl _
    · cases h
  · refine Nat.le_trans ?_ (MX11_person z1)
    cases h
    exact Nat.le_refl _
set_option maxHeartbeats 4000000 in
set_option maxRecDepth 100000 in
theorem LL_person {G : wkG} {α : Nat → Nat} {F : Nat} {S : wPS} {Ln Ln1 : Nat → Nat} {V V1 : mV} {v : Int64} {Φ : (Int64 → wPS → Prop)} {l0Ax : Nat} {k0 n0 : Nat} (h : mL_person G F Ln V = some (v, Ln1, V1)) (R : mRel α S Ln V) (el0A : l0Ax = α 0) (hk : (mP Ln - mP Ln1) / 16 ≤ k0) (hn : mP Ln - mP Ln1 ≤ n0) (k : (∀ S1, mRel α S1 Ln1 V1 → mFr α S S1 → Φ v S1)) : rL_person G F k0 n0 l0Ax S Φ := by
  have el0A := el0A.symm
  subst el0A
  unfold mL_person at h
  unfold rL_person
  rcases mBT_some h with ⟨E6, L7, V7, z0, h⟩ | ⟨v1, L2, V2, hv1, h⟩
  · have m0 : mP L7 ≤ mP Ln := MX11_person z0
    have q0 : mP Ln1 ≤ mP L7 := by
      rcases mIf_some h with ⟨_, h⟩ | ⟨_, h⟩
      · cases h
        exact Nat.le_refl _
      · cases h
    refine ⟨(mP Ln - mP L7) / 16, mP Ln - mP L7, by omega, by omega, ?_⟩
    refine LX11_person_E z0 R rfl (by omega) (by omega) (fun S7 R7 F7 => ?_)
    refine mIf h Iff.rfl (fun c2 h => ?_) (fun c2 h => ?_)
    · obtain ⟨rfl, rfl, rfl⟩ := mRA3 h
      exact k _ R7 F7
    · cases h
  · have mv1 : mP L2 ≤ mP Ln := MX11_person hv1
    have qv1 : mP Ln1 ≤ mP L2 := by
      cases h
      exact Nat.le_refl _
    refine ⟨(mP Ln - mP L2) / 16, mP Ln - mP L2, by omega, by omega, ?_⟩
    refine LX11_person_V hv1 R rfl (by omega) (by omega) (fun S2 R2 F2 => ?_)
    obtain ⟨rfl, rfl, rfl⟩ := mRA3 h
    exact k _ R2 F2
def mL_wipe (G : wkG) (F : Nat) (V : mV) : Option (Int64 × mV) :=
  (mBW (mX11_wipe F V) fun v1 V2 => some ((Int32.toInt64 v1), V2))
set_option maxHeartbeats 4000000 in
set_option maxRecDepth 100000 in
theorem LL_wipe {G : wkG} {α : Nat → Nat} {F : Nat} {S : wPS} {Ln : Nat → Nat} {V V1 : mV} {v : Int64} {Φ : (Int64 → wPS → Prop)} {l0Ax : Nat} (h : mL_wipe G F V = some (v, V1)) (R : mRel α S Ln V) (el0A : l0Ax = α 0) (k : (∀ S1, mRel α S1 Ln V1 → mFr α S S1 → Φ v S1)) : rL_wipe G F l0Ax S Φ := by
  have el0A := el0A.symm
  subst el0A
  unfold mL_wipe at h
  unfold rL_wipe
  obtain ⟨v1, V2, hv1, h⟩ := mBW_some h
  refine LX11_wipe hv1 R rfl (fun S2 R2 F2 => ?_)
  obtain ⟨rfl, rfl⟩ := mRW h
  exact k _ R2 F2
def mL_drawn (G : wkG) (F : Nat) (l1I : Int32) (l2I : Int32) : Option Int32 :=
  (mBN (mL_cell G F ((l1I - l1I / (150 : Int32) * (150 : Int32)))) fun v1 => (mBN (mL_chosen G F ((v1 + ((104729 : Int32) * l1I))) (l2I)) fun v6 => some (v6)))
set_option maxHeartbeats 4000000 in
set_option maxRecDepth 100000 in
theorem LL_drawn {G : wkG} {F : Nat} {S : wPS} {v : Int32} {Φ : (Int32 → wPS → Prop)} {l1Ix l1I : Int32} {l2Ix l2I : Int32} (h : mL_drawn G F l1I l2I  = some v) (el1I : l1Ix = l1I) (el2I : l2Ix = l2I) (k : (Φ v S)) : rL_drawn G F l1Ix l2Ix S Φ := by
  have el1I := el1I.symm
  subst el1I
  have el2I := el2I.symm
  subst el2I
  unfold mL_drawn at h
  unfold rL_drawn
  obtain ⟨v1, hv1, h⟩ := mBN_some h
  refine LL_cell hv1 rfl ?_
  obtain ⟨v6, hv6, h⟩ := mBN_some h
  refine LL_chosen hv6 rfl rfl ?_
  cases h
  exact k
def mL_pick (G : wkG) (F : Nat) (l0I : Int32) (l1A : Nat) (V : mV) : Option Int32 :=
  (if l0I < 0 ∨ mLen l1A ≤ (l0I).toNatClampNeg then none else some ((V.rI l1A (l0I).toNatClampNeg)))
set_option maxHeartbeats 4000000 in
set_option maxRecDepth 100000 in
theorem LL_pick {G : wkG} {α : Nat → Nat} {F : Nat} {S : wPS} {Ln : Nat → Nat} {V : mV} {v : Int32} {Φ : (Int32 → wPS → Prop)} {l0Ix l0I : Int32} {l1Ax : Nat} {l1A : Nat} (h : mL_pick G F l0I l1A V = some v) (R : mRel α S Ln V) (sl1A : mK l1A = 13) (el0I : l0Ix = l0I) (el1A : l1Ax = α l1A) (k : (Φ v S)) : rL_pick G F l0Ix l1Ax S Φ := by
  have el0I := el0I.symm
  subst el0I
  have el1A := el1A.symm
  subst el1A
  unfold mL_pick at h
  unfold rL_pick
  refine mGd h (by rw [show S.len (α l1A) = mLen l1A from (mg_len R (mA13 sl1A) rfl)]) (fun c1 h => ?_)
  cases h
  rw [show S.rI (α l1A) (l0I).toNatClampNeg = V.rI l1A (l0I).toNatClampNeg from (mg_rI (i := l1A) R (mA13 sl1A) rfl rfl)]
  exact k
def mL_part (G : wkG) (F : Nat) (l0I : Int32) (l1I : Int32) (l2I : Int32) (l4I : Int32) : Option Int32 :=
  (if l0I = 97 then (if (2 : Int32) ≤ l2I then (mBN (mL_drawn G F (l4I) ((2 : Int32))) fun v4 => some (v4)) else (mBN (mL_drawn G F (l4I) (l1I)) fun v9 => some (v9))) else (if l0I = 98 then (if (2 : Int32) ≤ l2I then (mBN (mL_drawn G F (l4I) ((7 : Int32))) fun v16 => some (v16)) else (mBN (mL_drawn G F (l4I) (l1I)) fun v21 => some (v21))) else (if l0I = 99 then (if (2 : Int32) ≤ l2I then (mBN (mL_drawn G F (l4I) ((7 : Int32))) fun v28 => some (v28)) else (mBN (mL_drawn G F (l4I) (l1I)) fun v33 => some (v33))) else (if l0I = 100 then (if (4 : Int32) ≤ l2I then (mBN (mL_drawn G F (l4I) ((41 : Int32))) fun v40 => some ((v40 - (20 : Int32)))) else (mBN (mL_drawn G F (l4I) ((13 : Int32))) fun v45 => some ((v45 - (6 : Int32))))) else (if l0I = 101 then (if (2 : Int32) ≤ l2I then (mBN (mL_drawn G F (l4I) ((7 : Int32))) fun v52 => some (v52)) else (mBN (mL_drawn G F (l4I) (l1I)) fun v57 => some (v57))) else (if l0I = 102 then (if (2 : Int32) ≤ l2I then (mBN (mL_drawn G F (l4I) ((7 : Int32))) fun v64 => some (v64)) else (mBN (mL_drawn G F (l4I) (l1I)) fun v69 => some (v69))) else (if l0I = 103 then (if (2 : Int32) ≤ l2I then (mBN (mL_drawn G F (l4I) ((7 : Int32))) fun v76 => some (v76)) else (mBN (mL_drawn G F (l4I) (l1I)) fun v81 => some (v81))) else (if l0I = 104 then (if (2 : Int32) ≤ l2I then (mBN (mL_drawn G F (l4I) ((7 : Int32))) fun v88 => some (v88)) else (mBN (mL_drawn G F (l4I) (l1I)) fun v93 => some (v93))) else (if l0I = 105 then (if (2 : Int32) ≤ l2I then (mBN (mL_drawn G F (l4I) ((7 : Int32))) fun v100 => some (v100)) else (mBN (mL_drawn G F (l4I) (l1I)) fun v105 => some (v105))) else (if l0I = 106 then (if (2 : Int32) ≤ l2I then (mBN (mL_drawn G F (l4I) ((7 : Int32))) fun v112 => some (v112)) else (mBN (mL_drawn G F (l4I) (l1I)) fun v117 => some (v117))) else (if l0I = 107 then (if (2 : Int32) ≤ l2I then (mBN (mL_drawn G F (l4I) ((7 : Int32))) fun v124 => some (v124)) else (mBN (mL_drawn G F (l4I) (l1I)) fun v129 => some (v129))) else (if l0I = 108 then (if (4 : Int32) ≤ l2I then (mBN (mL_drawn G F (l4I) ((81 : Int32))) fun v136 => some ((v136 - (40 : Int32)))) else (mBN (mL_drawn G F (l4I) ((19 : Int32))) fun v141 => some ((v141 - (9 : Int32))))) else (if l0I = 109 then (if (2 : Int32) ≤ l2I then (mBN (mL_drawn G F (l4I) ((7 : Int32))) fun v148 => some (v148)) else (mBN (mL_drawn G F (l4I) (l1I)) fun v153 => some (v153))) else (if l0I = 110 then (if (2 : Int32) ≤ l2I then (mBN (mL_drawn G F (l4I) ((7 : Int32))) fun v160 => some (v160)) else (mBN (mL_drawn G F (l4I) (l1I)) fun v165 => some (v165))) else (if l0I = 111 then (if (2 : Int32) ≤ l2I then (mBN (mL_drawn G F (l4I) ((7 : Int32))) fun v172 => some (v172)) else (mBN (mL_drawn G F (l4I) (l1I)) fun v177 => some (v177))) else (if l0I = 112 then (if (2 : Int32) ≤ l2I then (mBN (mL_drawn G F (l4I) ((7 : Int32))) fun v184 => some (v184)) else (mBN (mL_drawn G F (l4I) (l1I)) fun v189 => some (v189))) else (if l0I = 113 then (if (2 : Int32) ≤ l2I then (mBN (mL_drawn G F (l4I) ((7 : Int32))) fun v196 => some (v196)) else (mBN (mL_drawn G F (l4I) (l1I)) fun v201 => some (v201))) else (if l0I = 114 then (mBN (mL_drawn G F (l4I) ((15 : Int32))) fun v207 => some ((v207 - (7 : Int32)))) else (if l0I = 115 then (mBN (mL_drawn G F (l4I) ((((2 : Int32) * l1I) + (1 : Int32)))) fun v213 => some ((v213 - l1I))) else (if l0I = 116 then (if (2 : Int32) ≤ l2I then (mBN (mL_drawn G F (l4I) ((7 : Int32))) fun v220 => some (v220)) else (mBN (mL_drawn G F (l4I) (l1I)) fun v225 => some (v225))) else (if l0I = 117 then (if (2 : Int32) ≤ l2I then (mBN (mL_drawn G F (l4I) ((7 : Int32))) fun v232 => some (v232)) else (mBN (mL_drawn G F (l4I) (l1I)) fun v237 => some (v237))) else (if l0I = 118 then (if (2 : Int32) ≤ l2I then (mBN (mL_drawn G F (l4I) ((7 : Int32))) fun v244 => some (v244)) else (mBN (mL_drawn G F (l4I) (l1I)) fun v249 => some (v249))) else (if l0I = 119 then (mBN (mL_drawn G F (l4I) ((31 : Int32))) fun v255 => some (((1 : Int32) + v255))) else (if l0I = 120 then (if l2I = 0 then (mBN (mL_drawn G F (l4I) ((2 : Int32))) fun v279 => some (v279)) else (if l2I = (1 : Int32) then (mBN (mL_drawn G F (l4I) ((6 : Int32))) fun v274 => some (v274)) else (if l2I = (2 : Int32) then (mBN (mL_drawn G F (l4I) (l1I)) fun v269 => some (v269)) else (mBN (mL_drawn G F (l4I) ((l1I + (1 : Int32)))) fun v264 => some ((v264 - (1 : Int32))))))) else (if (2 : Int32) ≤ l2I then (mBN (mL_drawn G F (l4I) ((7 : Int32))) fun v285 => some (v285)) else (mBN (mL_drawn G F (l4I) (l1I)) fun v290 => some (v290)))))))))))))))))))))))))))
set_option maxHeartbeats 4000000 in
set_option maxRecDepth 100000 in
theorem LL_part {G : wkG} {F : Nat} {S : wPS} {v : Int32} {Φ : (Int32 → wPS → Prop)} {l0Ix l0I : Int32} {l1Ix l1I : Int32} {l2Ix l2I : Int32} {l4Ix l4I : Int32} (h : mL_part G F l0I l1I l2I l4I  = some v) (el0I : l0Ix = l0I) (el1I : l1Ix = l1I) (el2I : l2Ix = l2I) (el4I : l4Ix = l4I) (k : (Φ v S)) : rL_part G F l0Ix l1Ix l2Ix l4Ix S Φ := by
  have el0I := el0I.symm
  subst el0I
  have el1I := el1I.symm
  subst el1I
  have el2I := el2I.symm
  subst el2I
  have el4I := el4I.symm
  subst el4I
  unfold mL_part at h
  unfold rL_part
  refine mIf h Iff.rfl (fun c1 h => ?_) (fun c1 h => ?_)
  · refine mIf h Iff.rfl (fun c2 h => ?_) (fun c2 h => ?_)
    · obtain ⟨v4, hv4, h⟩ := mBN_some h
      refine LL_drawn hv4 rfl rfl ?_
      cases h
      exact k
    · obtain ⟨v9, hv9, h⟩ := mBN_some h
      refine LL_drawn hv9 rfl rfl ?_
      cases h
      exact k
  · refine mIf h Iff.rfl (fun c3 h => ?_) (fun c3 h => ?_)
    · refine mIf h Iff.rfl (fun c4 h => ?_) (fun c4 h => ?_)
      · obtain ⟨v16, hv16, h⟩ := mBN_some h
        refine LL_drawn hv16 rfl rfl ?_
        cases h
        exact k
      · obtain ⟨v21, hv21, h⟩ := mBN_some h
        refine LL_drawn hv21 rfl rfl ?_
        cases h
        exact k
    · refine mIf h Iff.rfl (fun c5 h => ?_) (fun c5 h => ?_)
      · refine mIf h Iff.rfl (fun c6 h => ?_) (fun c6 h => ?_)
        · obtain ⟨v28, hv28, h⟩ := mBN_some h
          refine LL_drawn hv28 rfl rfl ?_
          cases h
          exact k
        · obtain ⟨v33, hv33, h⟩ := mBN_some h
          refine LL_drawn hv33 rfl rfl ?_
          cases h
          exact k
      · refine mIf h Iff.rfl (fun c7 h => ?_) (fun c7 h => ?_)
        · refine mIf h Iff.rfl (fun c8 h => ?_) (fun c8 h => ?_)
          · obtain ⟨v40, hv40, h⟩ := mBN_some h
            refine LL_drawn hv40 rfl rfl ?_
            cases h
            exact k
          · obtain ⟨v45, hv45, h⟩ := mBN_some h
            refine LL_drawn hv45 rfl rfl ?_
            cases h
            exact k
        · refine mIf h Iff.rfl (fun c9 h => ?_) (fun c9 h => ?_)
          · refine mIf h Iff.rfl (fun c10 h => ?_) (fun c10 h => ?_)
            · obtain ⟨v52, hv52, h⟩ := mBN_some h
              refine LL_drawn hv52 rfl rfl ?_
              cases h
              exact k
            · obtain ⟨v57, hv57, h⟩ := mBN_some h
              refine LL_drawn hv57 rfl rfl ?_
              cases h
              exact k
          · refine mIf h Iff.rfl (fun c11 h => ?_) (fun c11 h => ?_)
            · refine mIf h Iff.rfl (fun c12 h => ?_) (fun c12 h => ?_)
              · obtain ⟨v64, hv64, h⟩ := mBN_some h
                refine LL_drawn hv64 rfl rfl ?_
                cases h
                exact k
              · obtain ⟨v69, hv69, h⟩ := mBN_some h
                refine LL_drawn hv69 rfl rfl ?_
                cases h
                exact k
            · refine mIf h Iff.rfl (fun c13 h => ?_) (fun c13 h => ?_)
              · refine mIf h Iff.rfl (fun c14 h => ?_) (fun c14 h => ?_)
                · obtain ⟨v76, hv76, h⟩ := mBN_some h
                  refine LL_drawn hv76 rfl rfl ?_
                  cases h
                  exact k
                · obtain ⟨v81, hv81, h⟩ := mBN_some h
                  refine LL_drawn hv81 rfl rfl ?_
                  cases h
                  exact k
              · refine mIf h Iff.rfl (fun c15 h => ?_) (fun c15 h => ?_)
                · refine mIf h Iff.rfl (fun c16 h => ?_) (fun c16 h => ?_)
                  · obtain ⟨v88, hv88, h⟩ := mBN_some h
                    refine LL_drawn hv88 rfl rfl ?_
                    cases h
                    exact k
                  · obtain ⟨v93, hv93, h⟩ := mBN_some h
                    refine LL_drawn hv93 rfl rfl ?_
                    cases h
                    exact k
                · refine mIf h Iff.rfl (fun c17 h => ?_) (fun c17 h => ?_)
                  · refine mIf h Iff.rfl (fun c18 h => ?_) (fun c18 h => ?_)
                    · obtain ⟨v100, hv100, h⟩ := mBN_some h
                      refine LL_drawn hv100 rfl rfl ?_
                      cases h
                      exact k
                    · obtain ⟨v105, hv105, h⟩ := mBN_some h
                      refine LL_drawn hv105 rfl rfl ?_
                      cases h
                      exact k
                  · refine mIf h Iff.rfl (fun c19 h => ?_) (fun c19 h => ?_)
                    · refine mIf h Iff.rfl (fun c20 h => ?_) (fun c20 h => ?_)
                      · obtain ⟨v112, hv112, h⟩ := mBN_some h
                        refine LL_drawn hv112 rfl rfl ?_
                        cases h
                        exact k
                      · obtain ⟨v117, hv117, h⟩ := mBN_some h
                        refine LL_drawn hv117 rfl rfl ?_
                        cases h
                        exact k
                    · refine mIf h Iff.rfl (fun c21 h => ?_) (fun c21 h => ?_)
                      · refine mIf h Iff.rfl (fun c22 h => ?_) (fun c22 h => ?_)
                        · obtain ⟨v124, hv124, h⟩ := mBN_some h
                          refine LL_drawn hv124 rfl rfl ?_
                          cases h
                          exact k
                        · obtain ⟨v129, hv129, h⟩ := mBN_some h
                          refine LL_drawn hv129 rfl rfl ?_
                          cases h
                          exact k
                      · refine mIf h Iff.rfl (fun c23 h => ?_) (fun c23 h => ?_)
                        · refine mIf h Iff.rfl (fun c24 h => ?_) (fun c24 h => ?_)
                          · obtain ⟨v136, hv136, h⟩ := mBN_some h
                            refine LL_drawn hv136 rfl rfl ?_
                            cases h
                            exact k
                          · obtain ⟨v141, hv141, h⟩ := mBN_some h
                            refine LL_drawn hv141 rfl rfl ?_
                            cases h
                            exact k
                        · refine mIf h Iff.rfl (fun c25 h => ?_) (fun c25 h => ?_)
                          · refine mIf h Iff.rfl (fun c26 h => ?_) (fun c26 h => ?_)
                            · obtain ⟨v148, hv148, h⟩ := mBN_some h
                              refine LL_drawn hv148 rfl rfl ?_
                              cases h
                              exact k
                            · obtain ⟨v153, hv153, h⟩ := mBN_some h
                              refine LL_drawn hv153 rfl rfl ?_
                              cases h
                              exact k
                          · refine mIf h Iff.rfl (fun c27 h => ?_) (fun c27 h => ?_)
                            · refine mIf h Iff.rfl (fun c28 h => ?_) (fun c28 h => ?_)
                              · obtain ⟨v160, hv160, h⟩ := mBN_some h
                                refine LL_drawn hv160 rfl rfl ?_
                                cases h
                                exact k
                              · obtain ⟨v165, hv165, h⟩ := mBN_some h
                                refine LL_drawn hv165 rfl rfl ?_
                                cases h
                                exact k
                            · refine mIf h Iff.rfl (fun c29 h => ?_) (fun c29 h => ?_)
                              · refine mIf h Iff.rfl (fun c30 h => ?_) (fun c30 h => ?_)
                                · obtain ⟨v172, hv172, h⟩ := mBN_some h
                                  refine LL_drawn hv172 rfl rfl ?_
                                  cases h
                                  exact k
                                · obtain ⟨v177, hv177, h⟩ := mBN_some h
                                  refine LL_drawn hv177 rfl rfl ?_
                                  cases h
                                  exact k
                              · refine mIf h Iff.rfl (fun c31 h => ?_) (fun c31 h => ?_)
                                · refine mIf h Iff.rfl (fun c32 h => ?_) (fun c32 h => ?_)
                                  · obtain ⟨v184, hv184, h⟩ := mBN_some h
                                    refine LL_drawn hv184 rfl rfl ?_
                                    cases h
                                    exact k
                                  · obtain ⟨v189, hv189, h⟩ := mBN_some h
                                    refine LL_drawn hv189 rfl rfl ?_
                                    cases h
                                    exact k
                                · refine mIf h Iff.rfl (fun c33 h => ?_) (fun c33 h => ?_)
                                  · refine mIf h Iff.rfl (fun c34 h => ?_) (fun c34 h => ?_)
                                    · obtain ⟨v196, hv196, h⟩ := mBN_some h
                                      refine LL_drawn hv196 rfl rfl ?_
                                      cases h
                                      exact k
                                    · obtain ⟨v201, hv201, h⟩ := mBN_some h
                                      refine LL_drawn hv201 rfl rfl ?_
                                      cases h
                                      exact k
                                  · refine mIf h Iff.rfl (fun c35 h => ?_) (fun c35 h => ?_)
                                    · obtain ⟨v207, hv207, h⟩ := mBN_some h
                                      refine LL_drawn hv207 rfl rfl ?_
                                      cases h
                                      exact k
                                    · refine mIf h Iff.rfl (fun c36 h => ?_) (fun c36 h => ?_)
                                      · obtain ⟨v213, hv213, h⟩ := mBN_some h
                                        refine LL_drawn hv213 rfl rfl ?_
                                        cases h
                                        exact k
                                      · refine mIf h Iff.rfl (fun c37 h => ?_) (fun c37 h => ?_)
                                        · refine mIf h Iff.rfl (fun c38 h => ?_) (fun c38 h => ?_)
                                          · obtain ⟨v220, hv220, h⟩ := mBN_some h
                                            refine LL_drawn hv220 rfl rfl ?_
                                            cases h
                                            exact k
                                          · obtain ⟨v225, hv225, h⟩ := mBN_some h
                                            refine LL_drawn hv225 rfl rfl ?_
                                            cases h
                                            exact k
                                        · refine mIf h Iff.rfl (fun c39 h => ?_) (fun c39 h => ?_)
                                          · refine mIf h Iff.rfl (fun c40 h => ?_) (fun c40 h => ?_)
                                            · obtain ⟨v232, hv232, h⟩ := mBN_some h
                                              refine LL_drawn hv232 rfl rfl ?_
                                              cases h
                                              exact k
                                            · obtain ⟨v237, hv237, h⟩ := mBN_some h
                                              refine LL_drawn hv237 rfl rfl ?_
                                              cases h
                                              exact k
                                          · refine mIf h Iff.rfl (fun c41 h => ?_) (fun c41 h => ?_)
                                            · refine mIf h Iff.rfl (fun c42 h => ?_) (fun c42 h => ?_)
                                              · obtain ⟨v244, hv244, h⟩ := mBN_some h
                                                refine LL_drawn hv244 rfl rfl ?_
                                                cases h
                                                exact k
                                              · obtain ⟨v249, hv249, h⟩ := mBN_some h
                                                refine LL_drawn hv249 rfl rfl ?_
                                                cases h
                                                exact k
                                            · refine mIf h Iff.rfl (fun c43 h => ?_) (fun c43 h => ?_)
                                              · obtain ⟨v255, hv255, h⟩ := mBN_some h
                                                refine LL_drawn hv255 rfl rfl ?_
                                                cases h
                                                exact k
                                              · refine mIf h Iff.rfl (fun c44 h => ?_) (fun c44 h => ?_)
                                                · refine mIf h Iff.rfl (fun c45 h => ?_) (fun c45 h => ?_)
                                                  · obtain ⟨v279, hv279, h⟩ := mBN_some h
                                                    refine LL_drawn hv279 rfl rfl ?_
                                                    cases h
                                                    exact k
                                                  · refine mIf h Iff.rfl (fun c46 h => ?_) (fun c46 h => ?_)
                                                    · obtain ⟨v274, hv274, h⟩ := mBN_some h
                                                      refine LL_drawn hv274 rfl rfl ?_
                                                      cases h
                                                      exact k
                                                    · refine mIf h Iff.rfl (fun c47 h => ?_) (fun c47 h => ?_)
                                                      · obtain ⟨v269, hv269, h⟩ := mBN_some h
                                                        refine LL_drawn hv269 rfl rfl ?_
                                                        cases h
                                                        exact k
                                                      · obtain ⟨v264, hv264, h⟩ := mBN_some h
                                                        refine LL_drawn hv264 rfl rfl ?_
                                                        cases h
                                                        exact k
                                                · refine mIf h Iff.rfl (fun c48 h => ?_) (fun c48 h => ?_)
                                                  · obtain ⟨v285, hv285, h⟩ := mBN_some h
                                                    refine LL_drawn hv285 rfl rfl ?_
                                                    cases h
                                                    exact k
                                                  · obtain ⟨v290, hv290, h⟩ := mBN_some h
                                                    refine LL_drawn hv290 rfl rfl ?_
                                                    cases h
                                                    exact k
def mL_drop (G : wkG) (F : Nat) (Ln : Nat → Nat) (l1I : Int32) (l2I : Int32) (V : mV) : Option (Int64 × (Nat → Nat) × mV) :=
  (mBT (mX11_drop F Ln (l1I) (l2I) V) (fun v1 L2 V2 => some ((Int32.toInt64 v1), L2, V2)) (fun E6 L7 V7 => (if E6 = "java/lang/IndexOutOfBoundsException" then some ((-4000000000000000001 : Int64), L7, V7) else (if E6 = "java/util/NoSuchElementException" then some ((-4000000000000000002 : Int64), L7, V7) else none))))
set_option maxHeartbeats 4000000 in
set_option maxRecDepth 100000 in
theorem ML_drop {G : wkG} {F : Nat} {Ln Ln1 : Nat → Nat} {V V1 : mV} {v : Int64} {l1I : Int32} {l2I : Int32} (h : mL_drop G F Ln l1I l2I V = some (v, Ln1, V1)) : mP Ln1 ≤ mP Ln := by
  unfold mL_drop at h
  rcases mBT_some h with ⟨_, _, _, z1, h⟩ | ⟨_, _, _, z1, h⟩
  · refine Nat.le_trans ?_ (MX11_drop z1)
    rcases mIf_some h with ⟨_, h⟩ | ⟨_, h⟩
    · cases h
      exact Nat.le_refl _
    · rcases mIf_some h with ⟨_, h⟩ | ⟨_, h⟩
      · cases h
        exact Nat.le_refl _
      · cases h
  · refine Nat.le_trans ?_ (MX11_drop z1)
    cases h
    exact Nat.le_refl _
set_option maxHeartbeats 4000000 in
set_option maxRecDepth 100000 in
theorem LL_drop {G : wkG} {α : Nat → Nat} {F : Nat} {S : wPS} {Ln Ln1 : Nat → Nat} {V V1 : mV} {v : Int64} {Φ : (Int64 → wPS → Prop)} {l0Ax : Nat} {l1Ix l1I : Int32} {l2Ix l2I : Int32} {k0 n0 : Nat} (h : mL_drop G F Ln l1I l2I V = some (v, Ln1, V1)) (R : mRel α S Ln V) (el0A : l0Ax = α 0) (el1I : l1Ix = l1I) (el2I : l2Ix = l2I) (hk : (mP Ln - mP Ln1) / 16 ≤ k0) (hn : mP Ln - mP Ln1 ≤ n0) (k : (∀ S1, mRel α S1 Ln1 V1 → mFr α S S1 → Φ v S1)) : rL_drop G F k0 n0 l0Ax l1Ix l2Ix S Φ := by
  have el0A := el0A.symm
  subst el0A
  have el1I := el1I.symm
  subst el1I
  have el2I := el2I.symm
  subst el2I
  unfold mL_drop at h
  unfold rL_drop
  rcases mBT_some h with ⟨E6, L7, V7, z0, h⟩ | ⟨v1, L2, V2, hv1, h⟩
  · have m0 : mP L7 ≤ mP Ln := MX11_drop z0
    have q0 : mP Ln1 ≤ mP L7 := by
      rcases mIf_some h with ⟨_, h⟩ | ⟨_, h⟩
      · cases h
        exact Nat.le_refl _
      · rcases mIf_some h with ⟨_, h⟩ | ⟨_, h⟩
        · cases h
          exact Nat.le_refl _
        · cases h
    refine ⟨(mP Ln - mP L7) / 16, mP Ln - mP L7, by omega, by omega, ?_⟩
    refine LX11_drop_E z0 R rfl rfl rfl (by omega) (by omega) (fun S7 R7 F7 => ?_)
    refine mIf h Iff.rfl (fun c2 h => ?_) (fun c2 h => ?_)
    · obtain ⟨rfl, rfl, rfl⟩ := mRA3 h
      exact k _ R7 F7
    · refine mIf h Iff.rfl (fun c3 h => ?_) (fun c3 h => ?_)
      · obtain ⟨rfl, rfl, rfl⟩ := mRA3 h
        exact k _ R7 F7
      · cases h
  · have mv1 : mP L2 ≤ mP Ln := MX11_drop hv1
    have qv1 : mP Ln1 ≤ mP L2 := by
      cases h
      exact Nat.le_refl _
    refine ⟨(mP Ln - mP L2) / 16, mP Ln - mP L2, by omega, by omega, ?_⟩
    refine LX11_drop_V hv1 R rfl rfl rfl (by omega) (by omega) (fun S2 R2 F2 => ?_)
    obtain ⟨rfl, rfl, rfl⟩ := mRA3 h
    exact k _ R2 F2
def mL_sizeOf (G : wkG) (F : Nat) (Ln : Nat → Nat) (l1I : Int32) (V : mV) : Option (Int64 × (Nat → Nat) × mV) :=
  (mBT (mX11_sizeOf F Ln (l1I) V) (fun v1 L2 V2 => some ((Int32.toInt64 v1), L2, V2)) (fun E6 L7 V7 => (if E6 = "java/lang/IndexOutOfBoundsException" then some ((-4000000000000000001 : Int64), L7, V7) else none)))
set_option maxHeartbeats 4000000 in
set_option maxRecDepth 100000 in
theorem ML_sizeOf {G : wkG} {F : Nat} {Ln Ln1 : Nat → Nat} {V V1 : mV} {v : Int64} {l1I : Int32} (h : mL_sizeOf G F Ln l1I V = some (v, Ln1, V1)) : mP Ln1 ≤ mP Ln := by
  unfold mL_sizeOf at h
  rcases mBT_some h with ⟨_, _, _, z1, h⟩ | ⟨_, _, _, z1, h⟩
  · refine Nat.le_trans ?_ (MX11_sizeOf z1)
    rcases mIf_some h with ⟨_, h⟩ | ⟨_, h⟩
    · cases h
      exact Nat.le_refl _
    · cases h
  · refine Nat.le_trans ?_ (MX11_sizeOf z1)
    cases h
    exact Nat.le_refl _
set_option maxHeartbeats 4000000 in
set_option maxRecDepth 100000 in
theorem LL_sizeOf {G : wkG} {α : Nat → Nat} {F : Nat} {S : wPS} {Ln Ln1 : Nat → Nat} {V V1 : mV} {v : Int64} {Φ : (Int64 → wPS → Prop)} {l0Ax : Nat} {l1Ix l1I : Int32} {k0 n0 : Nat} (h : mL_sizeOf G F Ln l1I V = some (v, Ln1, V1)) (R : mRel α S Ln V) (el0A : l0Ax = α 0) (el1I : l1Ix = l1I) (hk : (mP Ln - mP Ln1) / 16 ≤ k0) (hn : mP Ln - mP Ln1 ≤ n0) (k : (∀ S1, mRel α S1 Ln1 V1 → mFr α S S1 → Φ v S1)) : rL_sizeOf G F k0 n0 l0Ax l1Ix S Φ := by
  have el0A := el0A.symm
  subst el0A
  have el1I := el1I.symm
  subst el1I
  unfold mL_sizeOf at h
  unfold rL_sizeOf
  rcases mBT_some h with ⟨E6, L7, V7, z0, h⟩ | ⟨v1, L2, V2, hv1, h⟩
  · have m0 : mP L7 ≤ mP Ln := MX11_sizeOf z0
    have q0 : mP Ln1 ≤ mP L7 := by
      rcases mIf_some h with ⟨_, h⟩ | ⟨_, h⟩
      · cases h
        exact Nat.le_refl _
      · cases h
    refine ⟨(mP Ln - mP L7) / 16, mP Ln - mP L7, by omega, by omega, ?_⟩
    refine LX11_sizeOf_E z0 R rfl rfl (by omega) (by omega) (fun S7 R7 F7 => ?_)
    refine mIf h Iff.rfl (fun c2 h => ?_) (fun c2 h => ?_)
    · obtain ⟨rfl, rfl, rfl⟩ := mRA3 h
      exact k _ R7 F7
    · cases h
  · have mv1 : mP L2 ≤ mP Ln := MX11_sizeOf hv1
    have qv1 : mP Ln1 ≤ mP L2 := by
      cases h
      exact Nat.le_refl _
    refine ⟨(mP Ln - mP L2) / 16, mP Ln - mP L2, by omega, by omega, ?_⟩
    refine LX11_sizeOf_V hv1 R rfl rfl (by omega) (by omega) (fun S2 R2 F2 => ?_)
    obtain ⟨rfl, rfl, rfl⟩ := mRA3 h
    exact k _ R2 F2
def mL_items (G : wkG) (F : Nat) (Ln : Nat → Nat) (l1I : Int32) (V : mV) : Option (Int64 × (Nat → Nat) × mV) :=
  (mBT (mX11_items F Ln (l1I) V) (fun v1 L2 V2 => some ((Int32.toInt64 v1), L2, V2)) (fun E6 L7 V7 => (if E6 = "java/lang/IndexOutOfBoundsException" then some ((-4000000000000000001 : Int64), L7, V7) else none)))
set_option maxHeartbeats 4000000 in
set_option maxRecDepth 100000 in
theorem ML_items {G : wkG} {F : Nat} {Ln Ln1 : Nat → Nat} {V V1 : mV} {v : Int64} {l1I : Int32} (h : mL_items G F Ln l1I V = some (v, Ln1, V1)) : mP Ln1 ≤ mP Ln := by
  unfold mL_items at h
  rcases mBT_some h with ⟨_, _, _, z1, h⟩ | ⟨_, _, _, z1, h⟩
  · refine Nat.le_trans ?_ (MX11_items z1)
    rcases mIf_some h with ⟨_, h⟩ | ⟨_, h⟩
    · cases h
      exact Nat.le_refl _
    · cases h
  · refine Nat.le_trans ?_ (MX11_items z1)
    cases h
    exact Nat.le_refl _
set_option maxHeartbeats 4000000 in
set_option maxRecDepth 100000 in
theorem LL_items {G : wkG} {α : Nat → Nat} {F : Nat} {S : wPS} {Ln Ln1 : Nat → Nat} {V V1 : mV} {v : Int64} {Φ : (Int64 → wPS → Prop)} {l0Ax : Nat} {l1Ix l1I : Int32} {k0 n0 : Nat} (h : mL_items G F Ln l1I V = some (v, Ln1, V1)) (R : mRel α S Ln V) (el0A : l0Ax = α 0) (el1I : l1Ix = l1I) (hk : (mP Ln - mP Ln1) / 16 ≤ k0) (hn : mP Ln - mP Ln1 ≤ n0) (k : (∀ S1, mRel α S1 Ln1 V1 → mFr α S S1 → Φ v S1)) : rL_items G F k0 n0 l0Ax l1Ix S Φ := by
  have el0A := el0A.symm
  subst el0A
  have el1I := el1I.symm
  subst el1I
  unfold mL_items at h
  unfold rL_items
  rcases mBT_some h with ⟨E6, L7, V7, z0, h⟩ | ⟨v1, L2, V2, hv1, h⟩
  · have m0 : mP L7 ≤ mP Ln := MX11_items z0
    have q0 : mP Ln1 ≤ mP L7 := by
      rcases mIf_some h with ⟨_, h⟩ | ⟨_, h⟩
      · cases h
        exact Nat.le_refl _
      · cases h
    refine ⟨(mP Ln - mP L7) / 16, mP Ln - mP L7, by omega, by omega, ?_⟩
    refine LX11_items_E z0 R rfl rfl (by omega) (by omega) (fun S7 R7 F7 => ?_)
    refine mIf h Iff.rfl (fun c2 h => ?_) (fun c2 h => ?_)
    · obtain ⟨rfl, rfl, rfl⟩ := mRA3 h
      exact k _ R7 F7
    · cases h
  · have mv1 : mP L2 ≤ mP Ln := MX11_items hv1
    have qv1 : mP Ln1 ≤ mP L2 := by
      cases h
      exact Nat.le_refl _
    refine ⟨(mP Ln - mP L2) / 16, mP Ln - mP L2, by omega, by omega, ?_⟩
    refine LX11_items_V hv1 R rfl rfl (by omega) (by omega) (fun S2 R2 F2 => ?_)
    obtain ⟨rfl, rfl, rfl⟩ := mRA3 h
    exact k _ R2 F2
def mL_item (G : wkG) (F : Nat) (Ln : Nat → Nat) (l1I : Int32) (l2I : Int32) (l3I : Int32) (V : mV) : Option (Int64 × (Nat → Nat) × mV) :=
  (mBT (mX11_item F Ln (l1I) (l2I) (l3I) V) (fun v1 L2 V2 => some ((Int32.toInt64 v1), L2, V2)) (fun E6 L7 V7 => (if E6 = "java/lang/IndexOutOfBoundsException" then some ((-4000000000000000001 : Int64), L7, V7) else (if E6 = "java/util/NoSuchElementException" then some ((-4000000000000000002 : Int64), L7, V7) else (if E6 = "java/lang/IllegalArgumentException" then some ((-4000000000000000003 : Int64), L7, V7) else none)))))
set_option maxHeartbeats 4000000 in
set_option maxRecDepth 100000 in
theorem ML_item {G : wkG} {F : Nat} {Ln Ln1 : Nat → Nat} {V V1 : mV} {v : Int64} {l1I : Int32} {l2I : Int32} {l3I : Int32} (h : mL_item G F Ln l1I l2I l3I V = some (v, Ln1, V1)) : mP Ln1 ≤ mP Ln := by
  unfold mL_item at h
  rcases mBT_some h with ⟨_, _, _, z1, h⟩ | ⟨_, _, _, z1, h⟩
  · refine Nat.le_trans ?_ (MX11_item z1)
    rcases mIf_some h with ⟨_, h⟩ | ⟨_, h⟩
    · cases h
      exact Nat.le_refl _
    · rcases mIf_some h with ⟨_, h⟩ | ⟨_, h⟩
      · cases h
        exact Nat.le_refl _
      · rcases mIf_some h with ⟨_, h⟩ | ⟨_, h⟩
        · cases h
          exact Nat.le_refl _
        · cases h
  · refine Nat.le_trans ?_ (MX11_item z1)
    cases h
    exact Nat.le_refl _
set_option maxHeartbeats 4000000 in
set_option maxRecDepth 100000 in
theorem LL_item {G : wkG} {α : Nat → Nat} {F : Nat} {S : wPS} {Ln Ln1 : Nat → Nat} {V V1 : mV} {v : Int64} {Φ : (Int64 → wPS → Prop)} {l0Ax : Nat} {l1Ix l1I : Int32} {l2Ix l2I : Int32} {l3Ix l3I : Int32} {k0 n0 : Nat} (h : mL_item G F Ln l1I l2I l3I V = some (v, Ln1, V1)) (R : mRel α S Ln V) (el0A : l0Ax = α 0) (el1I : l1Ix = l1I) (el2I : l2Ix = l2I) (el3I : l3Ix = l3I) (hk : (mP Ln - mP Ln1) / 16 ≤ k0) (hn : mP Ln - mP Ln1 ≤ n0) (k : (∀ S1, mRel α S1 Ln1 V1 → mFr α S S1 → Φ v S1)) : rL_item G F k0 n0 l0Ax l1Ix l2Ix l3Ix S Φ := by
  have el0A := el0A.symm
  subst el0A
  have el1I := el1I.symm
  subst el1I
  have el2I := el2I.symm
  subst el2I
  have el3I := el3I.symm
  subst el3I
  unfold mL_item at h
  unfold rL_item
  rcases mBT_some h with ⟨E6, L7, V7, z0, h⟩ | ⟨v1, L2, V2, hv1, h⟩
  · have m0 : mP L7 ≤ mP Ln := MX11_item z0
    have q0 : mP Ln1 ≤ mP L7 := by
      rcases mIf_some h with ⟨_, h⟩ | ⟨_, h⟩
      · cases h
        exact Nat.le_refl _
      · rcases mIf_some h with ⟨_, h⟩ | ⟨_, h⟩
        · cases h
          exact Nat.le_refl _
        · rcases mIf_some h with ⟨_, h⟩ | ⟨_, h⟩
          · cases h
            exact Nat.le_refl _
          · cases h
    refine ⟨(mP Ln - mP L7) / 16, mP Ln - mP L7, by omega, by omega, ?_⟩
    refine LX11_item_E z0 R rfl rfl rfl rfl (by omega) (by omega) (fun S7 R7 F7 => ?_)
    refine mIf h Iff.rfl (fun c2 h => ?_) (fun c2 h => ?_)
    · obtain ⟨rfl, rfl, rfl⟩ := mRA3 h
      exact k _ R7 F7
    · refine mIf h Iff.rfl (fun c3 h => ?_) (fun c3 h => ?_)
      · obtain ⟨rfl, rfl, rfl⟩ := mRA3 h
        exact k _ R7 F7
      · refine mIf h Iff.rfl (fun c4 h => ?_) (fun c4 h => ?_)
        · obtain ⟨rfl, rfl, rfl⟩ := mRA3 h
          exact k _ R7 F7
        · cases h
  · have mv1 : mP L2 ≤ mP Ln := MX11_item hv1
    have qv1 : mP Ln1 ≤ mP L2 := by
      cases h
      exact Nat.le_refl _
    refine ⟨(mP Ln - mP L2) / 16, mP Ln - mP L2, by omega, by omega, ?_⟩
    refine LX11_item_V hv1 R rfl rfl rfl rfl (by omega) (by omega) (fun S2 R2 F2 => ?_)
    obtain ⟨rfl, rfl, rfl⟩ := mRA3 h
    exact k _ R2 F2
def mL_cameFrom (G : wkG) (F : Nat) (Ln : Nat → Nat) (l1I : Int32) (V : mV) : Option (Int64 × (Nat → Nat) × mV) :=
  (mBT (mX11_cameFrom F Ln (l1I) V) (fun v1 L2 V2 => some ((Int32.toInt64 v1), L2, V2)) (fun E6 L7 V7 => (if E6 = "java/lang/IndexOutOfBoundsException" then some ((-4000000000000000001 : Int64), L7, V7) else (if E6 = "java/util/NoSuchElementException" then some ((-4000000000000000002 : Int64), L7, V7) else none))))
set_option maxHeartbeats 4000000 in
set_option maxRecDepth 100000 in
theorem ML_cameFrom {G : wkG} {F : Nat} {Ln Ln1 : Nat → Nat} {V V1 : mV} {v : Int64} {l1I : Int32} (h : mL_cameFrom G F Ln l1I V = some (v, Ln1, V1)) : mP Ln1 ≤ mP Ln := by
  unfold mL_cameFrom at h
  rcases mBT_some h with ⟨_, _, _, z1, h⟩ | ⟨_, _, _, z1, h⟩
  · refine Nat.le_trans ?_ (MX11_cameFrom z1)
    rcases mIf_some h with ⟨_, h⟩ | ⟨_, h⟩
    · cases h
      exact Nat.le_refl _
    · rcases mIf_some h with ⟨_, h⟩ | ⟨_, h⟩
      · cases h
        exact Nat.le_refl _
      · cases h
  · refine Nat.le_trans ?_ (MX11_cameFrom z1)
    cases h
    exact Nat.le_refl _
set_option maxHeartbeats 4000000 in
set_option maxRecDepth 100000 in
theorem LL_cameFrom {G : wkG} {α : Nat → Nat} {F : Nat} {S : wPS} {Ln Ln1 : Nat → Nat} {V V1 : mV} {v : Int64} {Φ : (Int64 → wPS → Prop)} {l0Ax : Nat} {l1Ix l1I : Int32} {k0 n0 : Nat} (h : mL_cameFrom G F Ln l1I V = some (v, Ln1, V1)) (R : mRel α S Ln V) (el0A : l0Ax = α 0) (el1I : l1Ix = l1I) (hk : (mP Ln - mP Ln1) / 16 ≤ k0) (hn : mP Ln - mP Ln1 ≤ n0) (k : (∀ S1, mRel α S1 Ln1 V1 → mFr α S S1 → Φ v S1)) : rL_cameFrom G F k0 n0 l0Ax l1Ix S Φ := by
  have el0A := el0A.symm
  subst el0A
  have el1I := el1I.symm
  subst el1I
  unfold mL_cameFrom at h
  unfold rL_cameFrom
  rcases mBT_some h with ⟨E6, L7, V7, z0, h⟩ | ⟨v1, L2, V2, hv1, h⟩
  · have m0 : mP L7 ≤ mP Ln := MX11_cameFrom z0
    have q0 : mP Ln1 ≤ mP L7 := by
      rcases mIf_some h with ⟨_, h⟩ | ⟨_, h⟩
      · cases h
        exact Nat.le_refl _
      · rcases mIf_some h with ⟨_, h⟩ | ⟨_, h⟩
        · cases h
          exact Nat.le_refl _
        · cases h
    refine ⟨(mP Ln - mP L7) / 16, mP Ln - mP L7, by omega, by omega, ?_⟩
    refine LX11_cameFrom_E z0 R rfl rfl (by omega) (by omega) (fun S7 R7 F7 => ?_)
    refine mIf h Iff.rfl (fun c2 h => ?_) (fun c2 h => ?_)
    · obtain ⟨rfl, rfl, rfl⟩ := mRA3 h
      exact k _ R7 F7
    · refine mIf h Iff.rfl (fun c3 h => ?_) (fun c3 h => ?_)
      · obtain ⟨rfl, rfl, rfl⟩ := mRA3 h
        exact k _ R7 F7
      · cases h
  · have mv1 : mP L2 ≤ mP Ln := MX11_cameFrom hv1
    have qv1 : mP Ln1 ≤ mP L2 := by
      cases h
      exact Nat.le_refl _
    refine ⟨(mP Ln - mP L2) / 16, mP Ln - mP L2, by omega, by omega, ?_⟩
    refine LX11_cameFrom_V hv1 R rfl rfl (by omega) (by omega) (fun S2 R2 F2 => ?_)
    obtain ⟨rfl, rfl, rfl⟩ := mRA3 h
    exact k _ R2 F2
def mL_type (G : wkG) (F : Nat) (Ln : Nat → Nat) (l1I : Int32) (V : mV) : Option (Int64 × (Nat → Nat) × mV) :=
  (mBT (mX11_type F Ln (l1I) V) (fun v1 L2 V2 => some ((Int32.toInt64 v1), L2, V2)) (fun E6 L7 V7 => (if E6 = "java/lang/IllegalStateException" then some ((-4000000000000000001 : Int64), L7, V7) else none)))
set_option maxHeartbeats 4000000 in
set_option maxRecDepth 100000 in
theorem ML_type {G : wkG} {F : Nat} {Ln Ln1 : Nat → Nat} {V V1 : mV} {v : Int64} {l1I : Int32} (h : mL_type G F Ln l1I V = some (v, Ln1, V1)) : mP Ln1 ≤ mP Ln := by
  unfold mL_type at h
  rcases mBT_some h with ⟨_, _, _, z1, h⟩ | ⟨_, _, _, z1, h⟩
  · refine Nat.le_trans ?_ (MX11_type z1)
    rcases mIf_some h with ⟨_, h⟩ | ⟨_, h⟩
    · cases h
      exact Nat.le_refl _
    · cases h
  · refine Nat.le_trans ?_ (MX11_type z1)
    cases h
    exact Nat.le_refl _
set_option maxHeartbeats 4000000 in
set_option maxRecDepth 100000 in
theorem LL_type {G : wkG} {α : Nat → Nat} {F : Nat} {S : wPS} {Ln Ln1 : Nat → Nat} {V V1 : mV} {v : Int64} {Φ : (Int64 → wPS → Prop)} {l0Ax : Nat} {l1Ix l1I : Int32} {k0 n0 : Nat} (h : mL_type G F Ln l1I V = some (v, Ln1, V1)) (R : mRel α S Ln V) (el0A : l0Ax = α 0) (el1I : l1Ix = l1I) (hk : (mP Ln - mP Ln1) / 16 ≤ k0) (hn : mP Ln - mP Ln1 ≤ n0) (k : (∀ S1, mRel α S1 Ln1 V1 → mFr α S S1 → Φ v S1)) : rL_type G F k0 n0 l0Ax l1Ix S Φ := by
  have el0A := el0A.symm
  subst el0A
  have el1I := el1I.symm
  subst el1I
  unfold mL_type at h
  unfold rL_type
  rcases mBT_some h with ⟨E6, L7, V7, z0, h⟩ | ⟨v1, L2, V2, hv1, h⟩
  · have m0 : mP L7 ≤ mP Ln := MX11_type z0
    have q0 : mP Ln1 ≤ mP L7 := by
      rcases mIf_some h with ⟨_, h⟩ | ⟨_, h⟩
      · cases h
        exact Nat.le_refl _
      · cases h
    refine ⟨(mP Ln - mP L7) / 16, mP Ln - mP L7, by omega, by omega, ?_⟩
    refine LX11_type_E z0 R rfl rfl (by omega) (by omega) (fun S7 R7 F7 => ?_)
    refine mIf h Iff.rfl (fun c2 h => ?_) (fun c2 h => ?_)
    · obtain ⟨rfl, rfl, rfl⟩ := mRA3 h
      exact k _ R7 F7
    · cases h
  · have mv1 : mP L2 ≤ mP Ln := MX11_type hv1
    have qv1 : mP Ln1 ≤ mP L2 := by
      cases h
      exact Nat.le_refl _
    refine ⟨(mP Ln - mP L2) / 16, mP Ln - mP L2, by omega, by omega, ?_⟩
    refine LX11_type_V hv1 R rfl rfl (by omega) (by omega) (fun S2 R2 F2 => ?_)
    obtain ⟨rfl, rfl, rfl⟩ := mRA3 h
    exact k _ R2 F2
def mL_alter (G : wkG) (F : Nat) (Ln : Nat → Nat) (l1I : Int32) (l2I : Int32) (V : mV) : Option (Int64 × (Nat → Nat) × mV) :=
  (mBT (mX11_alter F Ln (l1I) (l2I) V) (fun v1 L2 V2 => some ((Int32.toInt64 v1), L2, V2)) (fun E6 L7 V7 => (if E6 = "java/util/NoSuchElementException" then some ((-4000000000000000001 : Int64), L7, V7) else none)))
set_option maxHeartbeats 4000000 in
set_option maxRecDepth 100000 in
theorem ML_alter {G : wkG} {F : Nat} {Ln Ln1 : Nat → Nat} {V V1 : mV} {v : Int64} {l1I : Int32} {l2I : Int32} (h : mL_alter G F Ln l1I l2I V = some (v, Ln1, V1)) : mP Ln1 ≤ mP Ln := by
  unfold mL_alter at h
  rcases mBT_some h with ⟨_, _, _, z1, h⟩ | ⟨_, _, _, z1, h⟩
  · refine Nat.le_trans ?_ (MX11_alter z1)
    rcases mIf_some h with ⟨_, h⟩ | ⟨_, h⟩
    · cases h
      exact Nat.le_refl _
    · cases h
  · refine Nat.le_trans ?_ (MX11_alter z1)
    cases h
    exact Nat.le_refl _
set_option maxHeartbeats 4000000 in
set_option maxRecDepth 100000 in
theorem LL_alter {G : wkG} {α : Nat → Nat} {F : Nat} {S : wPS} {Ln Ln1 : Nat → Nat} {V V1 : mV} {v : Int64} {Φ : (Int64 → wPS → Prop)} {l0Ax : Nat} {l1Ix l1I : Int32} {l2Ix l2I : Int32} {k0 n0 : Nat} (h : mL_alter G F Ln l1I l2I V = some (v, Ln1, V1)) (R : mRel α S Ln V) (el0A : l0Ax = α 0) (el1I : l1Ix = l1I) (el2I : l2Ix = l2I) (hk : (mP Ln - mP Ln1) / 16 ≤ k0) (hn : mP Ln - mP Ln1 ≤ n0) (k : (∀ S1, mRel α S1 Ln1 V1 → mFr α S S1 → Φ v S1)) : rL_alter G F k0 n0 l0Ax l1Ix l2Ix S Φ := by
  have el0A := el0A.symm
  subst el0A
  have el1I := el1I.symm
  subst el1I
  have el2I := el2I.symm
  subst el2I
  unfold mL_alter at h
  unfold rL_alter
  rcases mBT_some h with ⟨E6, L7, V7, z0, h⟩ | ⟨v1, L2, V2, hv1, h⟩
  · have m0 : mP L7 ≤ mP Ln := MX11_alter z0
    have q0 : mP Ln1 ≤ mP L7 := by
      rcases mIf_some h with ⟨_, h⟩ | ⟨_, h⟩
      · cases h
        exact Nat.le_refl _
      · cases h
    refine ⟨(mP Ln - mP L7) / 16, mP Ln - mP L7, by omega, by omega, ?_⟩
    refine LX11_alter_E z0 R rfl rfl rfl (by omega) (by omega) (fun S7 R7 F7 => ?_)
    refine mIf h Iff.rfl (fun c2 h => ?_) (fun c2 h => ?_)
    · obtain ⟨rfl, rfl, rfl⟩ := mRA3 h
      exact k _ R7 F7
    · cases h
  · have mv1 : mP L2 ≤ mP Ln := MX11_alter hv1
    have qv1 : mP Ln1 ≤ mP L2 := by
      cases h
      exact Nat.le_refl _
    refine ⟨(mP Ln - mP L2) / 16, mP Ln - mP L2, by omega, by omega, ?_⟩
    refine LX11_alter_V hv1 R rfl rfl rfl (by omega) (by omega) (fun S2 R2 F2 => ?_)
    obtain ⟨rfl, rfl, rfl⟩ := mRA3 h
    exact k _ R2 F2
end
