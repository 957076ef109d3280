/-! THE BOOK: an entry's own cells; what was is kept, and comes back. -/
section
theorem T_copyQ {F a c : Nat} {V : mV} (hac : a ≠ c) (hac1 : a + 1 ≠ c + 1) : mTo (mX3_copyQuestion F a c V) (fun p => (∀ j, j < 7 → p.2.fI a j = V.fI c j) ∧ (∀ j, j < 80 → p.2.rI (a + 1) j = V.rI (c + 1) j) ∧ (∀ j, 7 ≤ j → p.2.fI a j = V.fI a j) ∧ mAv (wX3_copyQuestion a c) V p.2) := by
  have main : mTo (mX3_copyQuestion F a c V) (fun p => (∀ j, j < 7 → p.2.fI a j = V.fI c j) ∧ (∀ j, j < 80 → p.2.rI (a + 1) j = V.rI (c + 1) j) ∧ ∀ j, 7 ≤ j → p.2.fI a j = V.fI a j) := by
    unfold mX3_copyQuestion
    have cn : ∀ (W : mV) (i j : Nat) (v : Int32), (mF W a i v).fI c j = W.fI c j := fun W i j v => mF_no (Or.inl (fun e => hac e.symm))
    refine mTo.lt (mTo.lt (mTo.lt (mTo.lt (mTo.lt (mTo.lt (mTo.lt ?_))))))
    rw [cn, cn, cn, cn, cn, cn, cn, cn, cn, cn, cn, cn, cn, cn, cn, cn, cn, cn, cn, cn, cn]
    refine mTo.gd (by decide) (mTo.gd (by decide) (mTo.gd (by decide) (mTo.gd (by decide) (mTo.gd (by decide) (mTo.lt (mTo.ret ⟨fun j hj => ?_, fun j hj => ?_, fun j hj => ?_⟩))))))
    · show (mF (mF (mF (mF (mF (mF (mF V a 0 _) a 1 _) a 2 _) a 3 _) a 4 _) a 5 _) a 6 _).fI a j = V.fI c j
      rcases (show j = 0 ∨ j = 1 ∨ j = 2 ∨ j = 3 ∨ j = 4 ∨ j = 5 ∨ j = 6 by omega) with e | e | e | e | e | e | e <;> subst e
      · rw [mF_no (Or.inr (by decide)), mF_no (Or.inr (by decide)), mF_no (Or.inr (by decide)), mF_no (Or.inr (by decide)), mF_no (Or.inr (by decide)), mF_no (Or.inr (by decide)), mF_at]
      · rw [mF_no (Or.inr (by decide)), mF_no (Or.inr (by decide)), mF_no (Or.inr (by decide)), mF_no (Or.inr (by decide)), mF_no (Or.inr (by decide)), mF_at]
      · rw [mF_no (Or.inr (by decide)), mF_no (Or.inr (by decide)), mF_no (Or.inr (by decide)), mF_no (Or.inr (by decide)), mF_at]
      · rw [mF_no (Or.inr (by decide)), mF_no (Or.inr (by decide)), mF_no (Or.inr (by decide)), mF_at]
      · rw [mF_no (Or.inr (by decide)), mF_no (Or.inr (by decide)), mF_at]
      · rw [mF_no (Or.inr (by decide)), mF_at]
      · rw [mF_at]
    · show va_up V.rI (a + 1) (va_cpy (V.rI (c + 1)) (V.rI (a + 1)) 0 0 80) (a + 1) j = _
      rw [mUp_eq]
      unfold va_cpy
      rw [if_pos ⟨Nat.zero_le _, by omega⟩, Nat.sub_zero, Nat.zero_add]
    · show (mF (mF (mF (mF (mF (mF (mF V a 0 _) a 1 _) a 2 _) a 3 _) a 4 _) a 5 _) a 6 _).fI a j = V.fI a j
      rw [mF_no (Or.inr (by omega)), mF_no (Or.inr (by omega)), mF_no (Or.inr (by omega)), mF_no (Or.inr (by omega)), mF_no (Or.inr (by omega)), mF_no (Or.inr (by omega)), mF_no (Or.inr (by omega))]
  obtain ⟨p, e1, q1, q2, q3⟩ := main
  exact ⟨p, e1, q1, q2, q3, NX3_copyQuestion e1⟩
theorem mostN_16 : ∀ k, k < 12 → ∀ s, s ≤ hiS k → mostN k s ≤ 16 := by decide
theorem okIt.m16 {q : qT} (h : okIt q) : Qm q ≤ 16 := Nat.le_trans h.2.2.2.1 (mostN_16 _ h.1 _ h.2.2.1)
theorem okIt.s9 {q : qT} (h : okIt q) : Qs q ≤ 9 := by
  have : ∀ k, k < 12 → hiS k ≤ 9 := by decide
  exact Nat.le_trans h.2.2.1 (this _ h.1)
theorem isQn.cp {V V1 : mV} {a c : Nat} {q : qT} (h : isQn V c q) (h16 : Qm q ≤ 16) (h1 : ∀ j, j < 7 → V1.fI a j = V.fI c j) (h2 : ∀ j, j < 80 → V1.rI (a + 1) j = V.rI (c + 1) j) : isQn V1 a q := by
  obtain ⟨a0, a1, a2, a3, a4, a5, a6, a7, a8⟩ := h
  exact ⟨by rw [h1 0 (by decide), a0], by rw [h1 1 (by decide), a1], by rw [h1 2 (by decide), a2], by rw [h1 3 (by decide), a3], by rw [h1 4 (by decide), a4], by rw [h1 5 (by decide), a5], by rw [h1 6 (by decide), a6], fun j hj => by rw [h2 j (by omega), a7 j hj], a8⟩
/-- the changes that can be undone: as many as there is room for -/
def chS (V : mV) : Prop := ∃ fc cc, fc < 24 ∧ cc ≤ 24 ∧ V.fI 0 9 = nI fc ∧ V.fI 0 10 = nI cc
/-- the last one was of the entry j, that was q -/
def undS (V : mV) (j : Nat) (q : qT) : Prop := ∃ fc cc l, fc < 24 ∧ cc < 24 ∧ V.fI 0 9 = nI fc ∧ V.fI 0 10 = nI (cc + 1) ∧ V.rI 14 ((fc + cc) % 24) = nI l ∧ l < 128 ∧ l ≠ 111 ∧ l ≠ 121 ∧ 0 < l ∧ V.rI 15 ((fc + cc) % 24) = nI j ∧ isQn V (352 + 8 * ((fc + cc) % 24)) q
theorem u16 : ∀ l, l < 128 → ((nI l).toUInt32 % 65536).toInt32 = nI l := by decide
theorem T_remember {F j l : Nat} {q : qT} {V : mV} (hF : 2 ≤ F) (hc : chS V) (hj : j < 12) (hl : l < 128) (h : isQn V (256 + 8 * j) q) (h16 : Qm q ≤ 16) : mTo (mX11_remember F (nI l) (nI j) V) (fun p => (l ≠ 111 → l ≠ 121 → 0 < l → undS p.2 j q) ∧ chS p.2 ∧ (∀ i, i ≠ 9 → i ≠ 10 → p.2.fI 0 i = V.fI 0 i) ∧ mAv wX11_remember V p.2) := by
  obtain ⟨fc, cc, c1, c2, c3, c4⟩ := hc
  have core : ∀ (V1 : mV) (f c : Nat), f < 24 → c < 24 → V1.fI 0 9 = nI f → V1.fI 0 10 = nI c → (∀ i, i ≠ 9 → i ≠ 10 → V1.fI 0 i = V.fI 0 i) → isQn V1 (256 + 8 * j) q → ∀ K, mTo (mX11_remember_go F (K + 1) 0 (nI l) (nI j) V1) (fun p => (l ≠ 111 → l ≠ 121 → 0 < l → undS p.2 j q) ∧ chS p.2 ∧ ∀ i, i ≠ 9 → i ≠ 10 → p.2.fI 0 i = V.fI 0 i) := fun V1 f c hf hc e9 e10 oth hq K => by
    rw [mX11_remember_go, if_pos rfl]
    unfold mX11_remember_b0
    rw [e9, e10, nI_add, show (24 : Int32) = nI 24 from rfl, pk_rem (by omega) (by decide) (by decide)]
    have sl : (f + c) % 24 < 24 := Nat.mod_lt _ (by decide)
    obtain ⟨sn, hsn⟩ : ∃ sn, sn = (f + c) % 24 := ⟨_, rfl⟩
    rw [← hsn] at sl ⊢
    refine mTo.lt (mTo.ix rfl sl (by omega) (mTo.gd (fun z => z (u16 l hl)) (mTo.lt (mTo.ix rfl sl (by omega) (mTo.lt (mTo.ix rfl sl (by omega) (mTo.ix rfl hj (by omega) ?_)))))))
    rw [nI_clamp (n := sn) (by omega), nI_clamp (n := j) (by omega)]
    refine mTo.W (T_copyQ (by omega) (by omega)) (fun _ V2 _ p => mTo.lt (mTo.ret ?_))
    obtain ⟨p1, p2, p3, p4⟩ := p
    have p4 : mAv (wX3_copyQuestion (352 + 8 * sn) (256 + 8 * j)) (mI (mI V1 14 (nI sn) (nI l)) 15 (nI sn) (nI j)) V2 := p4
    have f0 : V2.fI 0 = V1.fI 0 := (p4.1 0 (by unfold wX3_copyQuestion; omega)).1
    have r14 : V2.rI 14 sn = nI l := by
      rw [(p4.1 14 (by unfold wX3_copyQuestion; omega)).2.2.1, mI_no (by decide), mI_at (nI_clamp (n := sn) (by omega)), if_pos rfl]
    have r15 : V2.rI 15 sn = nI j := by
      rw [(p4.1 15 (by unfold wX3_copyQuestion; omega)).2.2.1, mI_at (nI_clamp (n := sn) (by omega)), if_pos rfl]
    have e10' : (mF V2 0 10 (V2.fI 0 10 + 1)).fI 0 10 = nI (c + 1) := by
      rw [mF_at, f0, e10, nI_1]
    have e9' : (mF V2 0 10 (V2.fI 0 10 + 1)).fI 0 9 = nI f := by
      rw [mF_no (Or.inr (by decide)), f0, e9]
    have q2 : isQn (mF V2 0 10 (V2.fI 0 10 + 1)) (352 + 8 * sn) q := by
      refine isQn.cp hq h16 (fun i hi => ?_) (fun i hi => ?_)
      · rw [mF_no (Or.inl (by omega))]
        exact p1 i hi
      · have := p2 i hi
        show V2.rI (352 + 8 * sn + 1) i = _
        rw [this, mI_no (by omega), mI_no (by omega)]
    refine ⟨fun l1 l2 l3 => ⟨f, c, l, hf, hc, e9', e10', by rw [← hsn]; exact r14, hl, l1, l2, l3, by rw [← hsn]; exact r15, by rw [← hsn]; exact q2⟩, ⟨f, c + 1, hf, hc, e9', e10'⟩, fun i i9 i10 => ?_⟩
    rw [mF_no (Or.inr i10), f0]
    exact oth i i9 i10
  have main : mTo (mX11_remember F (nI l) (nI j) V) (fun p => (l ≠ 111 → l ≠ 121 → 0 < l → undS p.2 j q) ∧ chS p.2 ∧ ∀ i, i ≠ 9 → i ≠ 10 → p.2.fI 0 i = V.fI 0 i) := by
    unfold mX11_remember mX11_remember_s
    obtain ⟨K, hK⟩ : ∃ K, F = K + 1 := ⟨F - 1, by omega⟩
    rw [c4]
    refine mTo.eqI (b := 24) rfl rfl (by omega) (by omega) (fun z => mTo.lt (mTo.lt ?_)) (fun z => ?_)
    · rw [c3, nI_1, show (24 : Int32) = nI 24 from rfl, pk_rem (by omega) (by decide) (by decide)]
      have := core (mF (mF V 0 9 (nI ((fc + 1) % 24))) 0 10 ((mF V 0 9 (nI ((fc + 1) % 24))).fI 0 10 - 1)) ((fc + 1) % 24) 23 (Nat.mod_lt _ (by decide)) (by decide) (by rw [mF_no (Or.inr (by decide)), mF_at]) (by
        rw [mF_at, mF_no (Or.inr (by decide)), c4, z]
        rfl) (fun i i9 i10 => by rw [mF_no (Or.inr i10), mF_no (Or.inr i9)]) (h.mv (fun i _ => by rw [mF_no (Or.inl (by omega)), mF_no (Or.inl (by omega))]) rfl) K
      rw [← hK] at this
      exact this
    · have := core V fc cc c1 (by omega) c3 c4 (fun _ _ _ => rfl) h K
      rw [← hK] at this
      exact this
  obtain ⟨p, e1, q1, q2, q3⟩ := main
  exact ⟨p, e1, q1, q2, q3, NX11_remember e1⟩
/-- what was comes back -/
theorem T_undo {F j : Nat} {q : qT} {Ln : Nat → Nat} {V : mV} (hj : j < 12) (h : undS V j q) (h16 : Qm q ≤ 16) : mTo (mX11_undo F Ln V) (fun p => (∃ l, p.1 = .inr (nI l) ∧ 0 < l ∧ l < 128) ∧ p.2.1 = Ln ∧ isQn p.2.2 (256 + 8 * j) q ∧ p.2.2.fI (256 + 8 * j) 9 = 0 ∧ (∀ i, 7 ≤ i → i ≠ 9 → p.2.2.fI (256 + 8 * j) i = V.fI (256 + 8 * j) i) ∧ chS p.2.2 ∧ (∀ i, i ≠ 10 → p.2.2.fI 0 i = V.fI 0 i) ∧ mAv (fun a => a = 0 ∨ a = 256 + 8 * j ∨ a = 256 + 8 * j + 1) V p.2.2) := by
  obtain ⟨fc, cc, l, c1, c2, c3, c4, c5, l1, l2, l3, l4, c6, c7⟩ := h
  unfold mX11_undo
  rw [c4]
  refine mTo.eqI (b := 0) rfl rfl (by omega) (by omega) (fun z => by omega) (fun z => mTo.lt ?_)
  obtain ⟨V2, hV2⟩ : ∃ V2, V2 = mF V 0 10 (nI (cc + 1) - 1) := ⟨_, rfl⟩
  rw [← hV2]
  have e10 : V2.fI 0 10 = nI cc := by rw [hV2, mF_at, nI_pred]
  have e9 : V2.fI 0 9 = nI fc := by rw [hV2, mF_no (Or.inr (by decide)), c3]
  obtain ⟨sn, hsn⟩ : ∃ sn, sn = (fc + cc) % 24 := ⟨_, rfl⟩
  have sl : sn < 24 := by rw [hsn]; exact Nat.mod_lt _ (by decide)
  rw [← hsn] at c5 c6 c7
  rw [e9, e10, nI_add, show (24 : Int32) = nI 24 from rfl, pk_rem (by omega) (by decide) (by decide), ← hsn]
  refine mTo.lt (mTo.ix rfl sl (by omega) ?_)
  have r14 : V2.rI 14 sn = nI l := by rw [hV2]; exact c5
  have r15 : V2.rI 15 sn = nI j := by rw [hV2]; exact c6
  rw [nI_clamp (n := sn) (by omega), r14, r15]
  refine mTo.lt (mTo.ic rfl sl (by omega) (mTo.lt ?_))
  have n1 : nI l ≠ 111 := fun e => l2 ((nI_eq (b := 111) (by omega) (by omega)).mp e)
  have n2 : nI l ≠ 121 := fun e => l3 ((nI_eq (b := 121) (by omega) (by omega)).mp e)
  rw [if_neg n1, if_neg n2]
  refine mTo.ix rfl hj (by omega) (mTo.ic rfl sl (by omega) ?_)
  rw [nI_clamp (n := j) (by omega)]
  refine mTo.W (T_copyQ (by omega) (by omega)) (fun _ V3 _ p => ?_)
  obtain ⟨p1, p2, p3, p4⟩ := p
  have p1 : ∀ i, i < 7 → V3.fI (256 + 8 * j) i = V2.fI (352 + 8 * sn) i := p1
  have p2 : ∀ i, i < 80 → V3.rI (256 + 8 * j + 1) i = V2.rI (352 + 8 * sn + 1) i := p2
  have p3 : ∀ i, 7 ≤ i → V3.fI (256 + 8 * j) i = V2.fI (256 + 8 * j) i := p3
  have p4 : mAv (wX3_copyQuestion (256 + 8 * j) (352 + 8 * sn)) V2 V3 := p4
  refine mTo.ic rfl hj (by omega) (mTo.lt (mTo.gd (fun z => z (u16 l l1)) (mTo.ret ?_)))
  have f0 : V3.fI 0 = V2.fI 0 := (p4.1 0 (by unfold wX3_copyQuestion; omega)).1
  refine ⟨⟨l, rfl, l4, l1⟩, rfl, ?_, mF_at, fun i h7 h9 => ?_, ⟨fc, cc, c1, by omega, ?_, ?_⟩, fun i hi => ?_, ?_⟩
  · have q1 : isQn V3 (256 + 8 * j) q := isQn.cp (V := V2) (by rw [hV2]; exact c7.mv (fun i _ => mF_no (Or.inl (by omega))) rfl) h16 p1 p2
    exact q1.mv (fun i hi => mF_no (Or.inr (by omega))) rfl
  · rw [mF_no (Or.inr h9), p3 i h7, hV2, mF_no (Or.inl (by omega))]
  · rw [mF_no (Or.inl (by omega)), f0, e9]
  · rw [mF_no (Or.inl (by omega)), f0, e10]
  · rw [mF_no (Or.inl (by omega)), f0, hV2, mF_no (Or.inr hi)]
  · refine mAv.F (mAv.tr (by rw [hV2]; exact mAv.F mAv.rf (Or.inl rfl)) p4 (fun i z => ?_)) (Or.inr (Or.inl rfl))
    unfold wX3_copyQuestion at z
    omega
end
