/-! THE BOOK: an entry is settled: what is counted. -/
section
theorem T_rowsEnd {F r1 r2 : Nat} {Ln : Nat → Nat} {V : mV} {xs ys : List Int32} (hF : 4096 ≤ F) (h1 : rowIs Ln V r1 xs) (h2 : rowIs Ln V r2 ys) : mTo (mX9_firstUnlike F Ln r1 r2 V) (fun _ => True) := by
  have n1 := h1.n
  have n2 := h2.n
  have l1 := h1.L
  have l2 := h2.L
  have m1 := h1.2.1
  have m2 := h2.2.1
  have go : ∀ l, l ≤ xs.length → l ≤ ys.length → ∀ k' i, l < i + k' → i ≤ l → mTo (mX9_firstUnlike_go F k' 0 Ln r1 r2 (nI l) (nI i) V) (fun _ => True) := by
    intro l la lb k'
    induction k' with
    | zero => intro i h1 h2; omega
    | succ k ih =>
      intro i a1 a2
      rw [mX9_firstUnlike_go, if_pos rfl]
      unfold mX9_firstUnlike_b0
      refine mTo.le rfl rfl (by omega) (by omega) (fun z => mTo.ret trivial) (fun z => mTo.ix rfl (by omega) (by omega) (mTo.ix rfl (by omega) (by omega) ?_))
      refine mTo.ite (fun e => mTo.lt ?_) (fun ne => mTo.ret trivial)
      rw [nI_1]
      exact ih (i + 1) (by omega) (by omega)
  unfold mX9_firstUnlike mX9_firstUnlike_s
  rw [h1.1, h2.1]
  refine mTo.lt ?_
  by_cases c : nI ys.length < nI xs.length
  · rw [if_pos c]
    have := i32lt.mp c
    rw [nI_toInt (by omega), nI_toInt (by omega)] at this
    exact go ys.length (by omega) (Nat.le_refl _) F 0 (by omega) (Nat.zero_le _)
  · rw [if_neg c]
    have : ¬ ys.length < xs.length := fun y => c (i32lt.mpr (by rw [nI_toInt (by omega), nI_toInt (by omega)]; omega))
    exact go xs.length (Nat.le_refl _) (by omega) F 0 (by omega) (Nat.zero_le _)
theorem row_uq {Ln : Nat → Nat} {V : mV} {r : Nat} {xs ys : List Int32} (h1 : rowIs Ln V r xs) (h2 : rowIs Ln V r ys) : xs = ys := by
  have n1 := h1.n
  have n2 := h2.n
  have e := h1.1
  rw [h2.1] at e
  have hl : ys.length = xs.length := (nI_eq (by omega) (by omega)).mp e
  refine List.ext_getElem hl.symm (fun j j1 j2 => ?_)
  have a := h1.2.2.2 j j1
  rw [h2.2.2.2 j j2, List.getD_eq_getElem?_getD, List.getD_eq_getElem?_getD, List.getElem?_eq_getElem j1, List.getElem?_eq_getElem j2] at a
  exact a.symm
def wSe (j i : Nat) : Prop := i = 0 ∨ i = 9 ∨ i = 256 + 8 * j ∨ i = 256 + 8 * j + 4 ∨ i = 256 + 8 * j + 5
/-- an entry is settled; what was settled so costs nothing -/
def setP (Ln : Nat → Nat) (V : mV) (n j : Nat) (Q : Nat → qT) (p : Unit × (Nat → Nat) × mV) : Prop := bAt Ln 0 n Q p.2.1 p.2.2 ∧ (∀ x, x < n → frs V Q x → frs p.2.2 Q x) ∧ setJ p.2.1 p.2.2 Q j ∧ mAv (wSe j) V p.2.2 ∧ mAl (wSe j) Ln p.2.1 ∧ (∀ i, i ≠ 17 → p.2.2.fI 0 i = V.fI 0 i) ∧ ∃ c c', V.fI 0 17 = nI c ∧ p.2.2.fI 0 17 = nI c' ∧ c ≤ c' ∧ c' ≤ 8192 ∧ (setJ Ln V Q j → c' = c)
theorem T_setEntry {F n j : Nat} {Q : Nat → qT} {Ln : Nat → Nat} {V : mV} (hF : 4096 ≤ F) (hI : bST Ln V n Q) (hj : j < n) (hf : frs V Q j) : mTo (mX11_settleEntry F Ln (nI j) (256 + 8 * j) V) (setP Ln V n j Q) := by
  have n12 := hI.1.1.2.1
  obtain ⟨v1, v2, v3, v4, v5, v6⟩ := frs_val hI.1 hj hf
  have tail0 := (T_tailE (F := F) hI hj hf).mono (Q := _) (R := setP Ln V n j Q) (fun p h => by
    obtain ⟨h1, h2, h3, h4, h5⟩ := h
    obtain ⟨c, c1, c2, _⟩ := hI.2.1.2.2.2.2.2.1
    have f0 := (h4.1 0 (by omega)).1
    exact ⟨⟨h1, by rw [h5 3000 (by omega)]; exact Nat.le_refl _, h5 3001 (by omega)⟩, h2, h3, mAv.tr mAv.rf h4 (fun i y => by unfold wSe; omega), fun i hi => h5 i (fun y => hi (by unfold wSe; omega)), fun i _ => by rw [f0], c, c, c1, by rw [f0]; exact c1, Nat.le_refl _, c2, fun _ => rfl⟩)
  have err : ∀ (e l m : Int32), ¬ setJ Ln V Q j → mTo (mBA (mX11_addError F Ln e l m V) fun _ L30 V30 => (mLt (mF V30 (256 + 8 * j) 14 ((1 : Int32))) fun V2 => (if ¬ ((((V2.fI (256 + 8 * j) 11) : Int32).toUInt32 % 65536).toInt32 = (V2.fI (256 + 8 * j) 11)) then none else (mLt (mF V2 (256 + 8 * j) 15 ((V2.fI (256 + 8 * j) 11))) fun V4 => (mBA (mX9_copy F L30 (256 + 8 * j + 4) (256 + 8 * j + 2) V4) fun _ L6 V6 => some ((), L6, V6)))))) (setP Ln V n j Q) := fun e l m ns => by
    refine mTo.A (T_addError (by omega) hI) (fun _ L V1 _ h => ?_)
    obtain ⟨⟨b1, b2, b3⟩, g1, g2, g3, c, c', c1, c2, c3, c4⟩ := h
    have b1 : bST L V1 n Q := b1
    have b2 : L 3000 ≤ Ln 3000 + 0 := b2
    have b3 : L 3001 = Ln 3001 := b3
    have g1 : mAv wX11_addError V V1 := g1
    have g2 : mAl wX11_addError Ln L := g2
    have g3 : ∀ i, i ≠ 17 → V1.fI 0 i = V.fI 0 i := g3
    have c2 : V1.fI 0 17 = nI c' := c2
    have fx : ∀ x, x < n → frs V Q x → frs V1 Q x := fun x hx h => by
      unfold frs at h ⊢
      rw [(g1.1 (256 + 8 * x) (by unfold wX11_addError; omega)).1]
      exact h
    refine (T_tailE (F := F) b1 hj (fx j hj hf)).mono (fun p h => ?_)
    obtain ⟨h1, h2, h3, h4, h5⟩ := h
    have f0 := (h4.1 0 (by omega)).1
    exact ⟨⟨h1, by rw [h5 3000 (by omega)]; exact b2, by rw [h5 3001 (by omega)]; exact b3⟩, fun x hx h => h2 x hx (fx x hx h), h3, mAv.tr (mAv.tr mAv.rf g1 (fun i y => by unfold wX11_addError at y; unfold wSe; omega)) h4 (fun i y => by unfold wSe; omega), fun i hi => by rw [h5 i (fun y => hi (by unfold wSe; omega)), g2 i (fun y => hi (by unfold wX11_addError at y; unfold wSe; omega))], fun i hi => by rw [f0, g3 i hi], c, c', c1, by rw [f0]; exact c2, c3, c4, fun y => absurd y ns⟩
  obtain ⟨ys, y1⟩ := hI.2.1.2.1 j (by omega)
  have go : (V.fI (256 + 8 * j) 14 ≠ 0 → V.fI (256 + 8 * j) 11 = V.fI (256 + 8 * j) 15) → ∀ k', 1 ≤ k' → mTo (mX11_settleEntry_go F k' 0 Ln (nI j) (256 + 8 * j) V) (setP Ln V n j Q) := fun h15 k' hk => by
    obtain ⟨k, rfl⟩ : ∃ k, k' = k + 1 := ⟨k' - 1, by omega⟩
    rw [mX11_settleEntry_go, if_pos rfl]
    unfold mX11_settleEntry_b0
    refine mTo.ite (fun _ => tail0) (fun z14 => ?_)
    refine mTo.N (T_isLike hF v3 y1) (fun v _ hv => mTo.tf hv (fun h0 => ?_) (fun _ => tail0))
    refine mTo.N (T_rowsEnd hF v3 y1) (fun u _ _ => err _ _ _ (fun s => h0 ?_))
    obtain ⟨s1, s2, s3⟩ := s
    exact row_uq s3 y1
  unfold mX11_settleEntry mX11_settleEntry_s
  refine mTo.ite (fun z => go (fun c => absurd z c) F (by omega)) (fun z => mTo.ite (fun z2 => go (fun _ => z2) F (by omega)) (fun z2 => err _ _ _ (fun s => z2 ?_)))
  rw [v1, s.2.1]
end
