/-! THE BOOK: the law settles; a claim that stands is never unsound. -/
section
theorem T_settle {G : wkG} {F n : Nat} {Q : Nat → qT} {Ln : Nat → Nat} {V : mV} (hF : 2 ^ 34 ≤ F) (hI : bST Ln V n Q) : mTo (mL_settle G F Ln V) (fun p => ¬ lg_cmp p.1 (0 : Int64) < 0 ∧ bAt Ln 0 n Q p.2.1 p.2.2 ∧ allS p.2.1 p.2.2 Q n ∧ (allS Ln V Q n → p.1 = 0)) := by
  unfold mL_settle
  refine mTo.B (T_settleI hF hI) (fun r L V1 _ h => ?_) (fun y L V1 _ h => ?_)
  · obtain ⟨e0, e1, h1, h2, h3, h4, h5, h6⟩ := h
    have h1 : r = nI e1 - nI e0 := Sum.inr.inj h1
    have e : r = nI (e1 - e0) := by
      rw [h1, show e1 = e0 + (e1 - e0) by omega, nI_subA, show e0 + (e1 - e0) - e0 = e1 - e0 by omega]
    refine mTo.ret ⟨by rw [e]; exact cmp_nI (by omega), h4, h5, fun y => ?_⟩
    show Int32.toInt64 r = 0
    rw [e, h6 y, Nat.sub_self]
    rfl
  · obtain ⟨e0, e1, h1, _⟩ := h
    cases h1
theorem T_unsC {F n u c : Nat} {Q : Nat → qT} {Ln : Nat → Nat} {V : mV} (hF : 2 ^ 34 ≤ F) (hI : bST Ln V n Q) (hf : ∀ x, x < n → frs V Q x) (hc : V.fI 0 15 = nI c) (hu : u < c) (c16 : c ≤ 16) : mTo (mX11_isUnsoundClaim F Ln (V.cl u) V) (fun p => p.1 = 0 ∧ lkP Ln V n Q Ln p.2 ∧ p.2.fI 0 = V.fI 0 ∧ p.2.cl = V.cl) := by
  have n12 := hI.1.1.2.1
  obtain ⟨cx, x1, x2, x3, x4, x5⟩ := id hI.2.1.2.2.2.1
  rw [hc] at x1
  have ex := (nI_eq (by omega) (by omega)).mp x1
  subst ex
  obtain ⟨⟨z, z1, z2⟩, xs, y1⟩ := x3 u (by omega)
  obtain ⟨⟨j, j1, j2⟩, jw⟩ := x5 u hu
  obtain ⟨v1, v2, v3, v4, v5, v6⟩ := frs_val hI.1 j2 (hf j j2)
  obtain ⟨w1, w2, w3, w4, _⟩ := v6
  have body : ∀ s1 : Int32, (V.fI (V.cl u) 2 = s1 ∨ ¬ (if V.fI (V.cl u) 2 = 0 then aNo (Q j) (bnd Q j) xs else aYs (Q j) (bnd Q j) xs)) → ∀ k', 1 ≤ k' → mTo (mX11_isUnsoundClaim_go F k' 0 Ln (V.cl u) (256 + 8 * j) (V.fI (V.cl u) 2) s1 V) (fun p => p.1 = 0 ∧ lkP Ln V n Q Ln p.2 ∧ p.2.fI 0 = V.fI 0 ∧ p.2.cl = V.cl) := fun s1 hs k' hk => by
    obtain ⟨k, rfl⟩ : ∃ k, k' = k + 1 := ⟨k' - 1, by omega⟩
    rw [mX11_isUnsoundClaim_go, if_pos rfl]
    unfold mX11_isUnsoundClaim_b0
    refine mTo.ite (fun _ => mTo.ret ⟨rfl, lkP.rf hI.1, rfl, rfl⟩) (fun ne => ?_)
    refine mTo.W (T_judgeAt (w := V.fI (V.cl u) 2) hF hI.1 j2 (hf j j2) (by rw [z2]; omega) y1) (fun v V2 _ h => ?_)
    obtain ⟨_, h1, k2, f2⟩ := h
    have h1 : v = 0 ↔ if V.fI (V.cl u) 2 = 0 then aNo (Q j) (bnd Q j) xs else aYs (Q j) (bnd Q j) xs := h1
    have k2 : lkP Ln V n Q Ln V2 := k2
    have f2 : mAv (wX4_judge (256 + 8 * j) (V.cl u + 1)) V V2 := f2
    refine mTo.ite (fun hv => absurd (h1.mp hv) (hs.resolve_left ne)) (fun _ => mTo.ret ⟨rfl, k2, (f2.1 0 (by unfold wX4_judge; omega)).1, f2.2 (by unfold wX4_judge; omega)⟩)
  unfold mX11_isUnsoundClaim mX11_isUnsoundClaim_s
  refine mTo.ix j1 (show j < 12 by omega) (by decide) ?_
  rw [j1, nI_clamp (n := j) (by omega), v1]
  refine mTo.ite (fun h => body 1 ?_ F (by omega)) (fun h => body 0 ?_ F (by omega))
  · rcases jw with e | e
    · right
      rw [e, if_pos rfl]
      exact fun y => w4 _ _ (w2 h) y
    · exact Or.inl e
  · rcases jw with e | e
    · exact Or.inl e
    · right
      rw [e, if_neg (by decide)]
      exact fun y => w4 _ _ y (w3 (w1.resolve_left h))
end
