/-! THE BOOK: an entry stands on its own; an entry leans on another. -/
section
theorem T_standI {F n j : Nat} {Q : Nat → qT} {Ln : Nat → Nat} {V : mV} (hF : 2 ^ 34 ≤ F) (hI : bST Ln V n Q) (hj : j < n) (hT : Ln 3000 < 5000) : mTo (mX11_stand F Ln (nI j) V) (fun p => (∃ v, p.1 = .inr v ∧ bST p.2.1 p.2.2 n (va_up Q j (qBd (Q j) (bnd Q j) (-1) (Qp (Q j)))) ∧ undS p.2.2 j (Q j) ∧ p.2.1 3000 ≤ Ln 3000 ∧ p.2.1 3001 = Ln 3001) ∨ (p.1 = .inl "java/lang/UnsupportedOperationException" ∧ bAt Ln 1 n Q p.2.1 p.2.2)) := by
  have n12 := hI.1.1.2.1
  unfold mX11_stand
  refine T_rfB hF hI.1 hj (fun L V1 r i f g => ?_)
  have I1 : bST L V1 n Q := lkP.st hI ⟨r, i, g⟩
  have th := bAt.tr (lkP.at hI ⟨r, i, g⟩) (lkP.at I1 (lkP.rf i)) (Nat.le_refl _)
  obtain ⟨_, th1, th2⟩ := th
  have th1 : L 3000 ≤ Ln 3000 := th1
  obtain ⟨⟨⟨q1, q2, q3, q4⟩, hS, hW⟩, hX, hO⟩ := id I1
  obtain ⟨qa, qb, qc⟩ := q3 j hj
  have m16 := qb.m16
  refine mTo.ite (fun _ => ?_) (fun _ => mTo.th (by omega) (Or.inr ⟨rfl, I1.th, by show va_up L 3000 (L 3000 + 1) 3000 ≤ _; rw [up_3000]; omega, by show va_up L 3000 (L 3000 + 1) 3001 = _; rw [show (va_up L 3000 (L 3000 + 1)) 3001 = L 3001 from up_3001, th2]⟩))
  obtain ⟨p3, e3, r1, r2, r3, r4⟩ := T_remember (F := F) (j := j) (l := 115) (by omega) hX.2.2.1 (by omega) (by decide) qa m16
  obtain ⟨u3, V3⟩ := p3
  have r1 := r1 (by decide) (by decide) (by decide)
  have r1 : undS V3 j (Q j) := r1
  have r2 : chS V3 := r2
  have r3 : ∀ i, i ≠ 9 → i ≠ 10 → V3.fI 0 i = V1.fI 0 i := r3
  have r4 : mAv wX11_remember V1 V3 := r4
  refine T_iW e3 ?_
  have fe : V3.fI (256 + 8 * j) = V1.fI (256 + 8 * j) := (r4.1 _ (by unfold wX11_remember; omega)).1
  have re : V3.rI (256 + 8 * j + 1) = V1.rI (256 + 8 * j + 1) := (r4.1 _ (by unfold wX11_remember; omega)).2.2.1
  have e8 : V3.fI (256 + 8 * j) 8 = bnd Q j := by rw [fe]; exact f.1
  have bb := bnd_b n12 hj q4 qb.1 qc
  rw [e8]
  refine mTo.lt (mTo.lt (mTo.ret (Or.inl ⟨_, rfl, ?_, ?_, th1, th2⟩)))
  · refine I1.upB (w := fun i => wX11_remember i ∨ i = 256 + 8 * j) hj (mAv.F (mAv.F (mAv.tr mAv.rf r4 (fun _ z => Or.inl z)) (Or.inr rfl)) (Or.inr rfl)) (fun i i9 i10 => ?_) ?_ ?_ ?_ ?_ (fun z hz => ?_) (fun i i1 i2 i3 => ?_) ?_ rfl bb (fun i hi => ?_) (acyc_no q4 (show (-1 : Int32) < 0 by decide)) (hO j hj)
    · rw [mF_no (Or.inl (by omega)), mF_no (Or.inl (by omega))]
      exact r3 i i9 i10
    · obtain ⟨fc, cc, c1, c2, c3, c4⟩ := r2
      exact ⟨fc, cc, c1, c2, by rw [mF_no (Or.inl (by omega)), mF_no (Or.inl (by omega))]; exact c3, by rw [mF_no (Or.inl (by omega)), mF_no (Or.inl (by omega))]; exact c4⟩
    · unfold wX11_remember; omega
    · unfold wX11_remember; omega
    · exact ⟨by unfold wX11_remember; omega, by unfold wX11_remember; omega⟩
    · unfold wX11_remember; omega
    · unfold wX11_remember; omega
    · obtain ⟨a0, a1, a2, a3, a4, a5, a6, a7, a8⟩ := qa
      have fx : ∀ x, x ≠ 2 → x ≠ 3 → (mF (mF V3 (256 + 8 * j) 2 (bnd Q j)) (256 + 8 * j) 3 (-1)).fI (256 + 8 * j) x = V1.fI (256 + 8 * j) x := fun x h6 h9 => by rw [mF_no (Or.inr h9), mF_no (Or.inr h6), fe]
      refine ⟨by rw [fx 0 (by decide) (by decide), a0]; rfl, by rw [fx 1 (by decide) (by decide), a1]; rfl, by rw [mF_no (Or.inr (by decide)), mF_at]; rfl, by rw [mF_at]; rfl, by rw [fx 4 (by decide) (by decide), a4]; rfl, by rw [fx 5 (by decide) (by decide), a5]; rfl, by rw [fx 6 (by decide) (by decide), a6]; rfl, fun y hy => ?_, a8⟩
      show V3.rI (256 + 8 * j + 1) y = _
      rw [re]
      exact a7 y hy
    · rw [mF_no (Or.inr (by omega)), mF_no (Or.inr (by omega)), fe]
  · exact r1.mv (w := fun i => i = 256 + 8 * j) (mAv.F (mAv.F mAv.rf rfl) rfl) (by omega) (by omega) (by omega) (fun i _ _ => by omega)
theorem T_stand {G : wkG} {F n j : Nat} {Q : Nat → qT} {Ln : Nat → Nat} {V : mV} (hF : 2 ^ 34 ≤ F) (hI : bST Ln V n Q) (hj : j < n) (hT : Ln 3000 < 5000) : mTo (mL_stand G F Ln (nI j) V) (fun p => (∃ v : Int32, p.1 = Int32.toInt64 v ∧ bST p.2.1 p.2.2 n (va_up Q j (qBd (Q j) (bnd Q j) (-1) (Qp (Q j)))) ∧ undS p.2.2 j (Q j) ∧ p.2.1 3000 ≤ Ln 3000 ∧ p.2.1 3001 = Ln 3001) ∨ (p.1 = -4000000000000000002 ∧ bAt Ln 1 n Q p.2.1 p.2.2)) := by
  unfold mL_stand
  refine mTo.B (T_standI hF hI hj hT) (fun r L V1 _ h => ?_) (fun y L V1 _ h => ?_)
  · rcases h with ⟨v, h3, h4⟩ | ⟨hh, _⟩
    · cases h3
      exact mTo.ret (Or.inl ⟨_, rfl, h4⟩)
    · cases hh
  · rcases h with ⟨_, h3, _⟩ | ⟨hh, h2⟩
    · cases h3
    · cases hh
      rw [if_neg (by decide), if_pos rfl]
      exact mTo.ret (Or.inr ⟨rfl, h2⟩)
/-- the leanings of x never come to j -/
def nevQ (Q : Nat → qT) (n j : Nat) : Nat → Nat → Prop
  | 0, x => x ≠ j ∧ Ql (Q x) < 0
  | t + 1, x => x ≠ j ∧ ∃ l, Ql (Q x) = nI l ∧ l < n ∧ nevQ Q n j t l
theorem acyc_le {Q : Nat → qT} {n j l t : Nat} {q : qT} (h : acyc Q n) (e : Ql q = nI l) (hl : l < n) (hv : nevQ Q n j t l) : acyc (va_up Q j q) n := by
  have nv : ∀ t x, nevQ Q n j t x → endQ (va_up Q j q) n t x := by
    intro t
    induction t with
    | zero =>
      intro x h
      show Ql (va_up Q j q x) < 0
      rw [mUp_ne _ _ h.1]
      exact h.2
    | succ t ih =>
      intro x h
      obtain ⟨h1, y, y1, y2, y3⟩ := h
      exact ⟨y, by rw [mUp_ne _ _ h1]; exact y1, y2, ih y y3⟩
  have ej : endQ (va_up Q j q) n (t + 1) j := ⟨l, by rw [mUp_eq]; exact e, hl, nv t l hv⟩
  have st : ∀ t i, i < n → endQ Q n t i → ∃ t', endQ (va_up Q j q) n t' i := by
    intro t
    induction t with
    | zero =>
      intro i _ h
      by_cases c : i = j
      · rw [c]; exact ⟨_, ej⟩
      · refine ⟨0, ?_⟩
        show Ql (va_up Q j q i) < 0
        rw [mUp_ne _ _ c]; exact h
    | succ t ih =>
      intro i hi h
      by_cases c : i = j
      · rw [c]; exact ⟨_, ej⟩
      · obtain ⟨x, x1, x2, x3⟩ := h
        obtain ⟨t', h'⟩ := ih x x2 x3
        exact ⟨t' + 1, x, by rw [mUp_ne _ _ c]; exact x1, x2, h'⟩
  intro i hi
  obtain ⟨t, ht⟩ := h i hi
  exact st t i hi ht
theorem T_leads {F n j l t : Nat} {Q : Nat → qT} {V : mV} (hF : 64 ≤ F) (hQ : bQ V n Q) (hj : j < n) (hl : l < n) (ht : endQ Q n t l) : mTo (mX11_leadsTo F (nI l) (nI j) V) (fun v => v ≠ 0 ∨ nevQ Q n j t l) := by
  have n12 := hQ.2.1
  have t12 := end_lt n12 hl ht
  have go : ∀ t k' x s, t + 2 ≤ k' → s + t < 12 → x < n → endQ Q n t x → mTo (mX11_leadsTo_go F k' 0 (nI j) (nI x) (nI s) V) (fun v => v ≠ 0 ∨ nevQ Q n j t x) := by
    intro t
    induction t with
    | zero =>
      intro k' x s h1 h2 h3 h4
      obtain ⟨k, rfl⟩ : ∃ k, k' = k + 2 := ⟨k' - 2, by omega⟩
      rw [mX11_leadsTo_go, if_pos rfl]
      unfold mX11_leadsTo_b0
      refine mTo.le (a := 12) rfl rfl (by decide) (by omega) (fun z => by omega) (fun _ => ?_)
      rw [if_neg (nI_nn (by omega))]
      refine mTo.eqI rfl rfl (by omega) (by omega) (fun _ => mTo.ret (Or.inl (by decide))) (fun ne => mTo.ix rfl (show x < 12 by omega) (by decide) (mTo.lt (mTo.lt ?_)))
      rw [nI_clamp (n := x) (by omega), (hQ.2.2.1 x h3).1.2.2.2.1, mX11_leadsTo_go, if_pos rfl]
      unfold mX11_leadsTo_b0
      have h4 : Ql (Q x) < 0 := h4
      refine mTo.ite (fun _ => mTo.ret (Or.inr ⟨ne, h4⟩)) (fun _ => ?_)
      rw [if_pos h4]
      exact mTo.ret (Or.inr ⟨ne, h4⟩)
    | succ t ih =>
      intro k' x s h1 h2 h3 h4
      obtain ⟨k, rfl⟩ : ∃ k, k' = k + 1 := ⟨k' - 1, by omega⟩
      obtain ⟨y, y1, y2, y3⟩ := h4
      rw [mX11_leadsTo_go, if_pos rfl]
      unfold mX11_leadsTo_b0
      refine mTo.le (a := 12) rfl rfl (by decide) (by omega) (fun z => by omega) (fun _ => ?_)
      rw [if_neg (nI_nn (by omega))]
      refine mTo.eqI rfl rfl (by omega) (by omega) (fun _ => mTo.ret (Or.inl (by decide))) (fun ne => mTo.ix rfl (show x < 12 by omega) (by decide) (mTo.lt (mTo.lt ?_)))
      rw [nI_clamp (n := x) (by omega), (hQ.2.2.1 x h3).1.2.2.2.1, y1, nI_1]
      refine (ih k y (s + 1) (by omega) (by omega) y2 y3).mono (fun v h => ?_)
      rcases h with h | h
      · exact Or.inl h
      · exact Or.inr ⟨ne, y, y1, y2, h⟩
  unfold mX11_leadsTo mX11_leadsTo_s
  exact go t F l 0 (by omega) (by omega) hl ht
theorem T_leanI {F n j l : Nat} {Q : Nat → qT} {Ln : Nat → Nat} {V : mV} {pl : Int32} (hF : 2 ^ 34 ≤ F) (hI : bST Ln V n Q) (hj : j < n) (hl : l < n) (hT : Ln 3000 < 5000) : mTo (mX11_lean F Ln (nI j) (nI l) pl V) (fun p => (∃ v, p.1 = .inr v ∧ acyc (va_up Q j (qBd (Q j) (Qb (Q j)) (nI l) pl)) n ∧ bST p.2.1 p.2.2 n (va_up Q j (qBd (Q j) (Qb (Q j)) (nI l) pl)) ∧ undS p.2.2 j (Q j) ∧ p.2.1 3000 ≤ Ln 3000 ∧ p.2.1 3001 = Ln 3001) ∨ ((p.1 = .inl "java/lang/IllegalArgumentException" ∨ p.1 = .inl "java/lang/UnsupportedOperationException") ∧ bAt Ln 1 n Q p.2.1 p.2.2)) := by
  have n12 := hI.1.1.2.1
  have no : ∀ y, (y = "java/lang/IllegalArgumentException" ∨ y = "java/lang/UnsupportedOperationException") → mTo (mTh (α := Int32) Ln y V) (fun p => (∃ v, p.1 = .inr v ∧ acyc (va_up Q j (qBd (Q j) (Qb (Q j)) (nI l) pl)) n ∧ bST p.2.1 p.2.2 n (va_up Q j (qBd (Q j) (Qb (Q j)) (nI l) pl)) ∧ undS p.2.2 j (Q j) ∧ p.2.1 3000 ≤ Ln 3000 ∧ p.2.1 3001 = Ln 3001) ∨ ((p.1 = .inl "java/lang/IllegalArgumentException" ∨ p.1 = .inl "java/lang/UnsupportedOperationException") ∧ bAt Ln 1 n Q p.2.1 p.2.2)) := fun y hy => by
    refine mTo.th hT (Or.inr ⟨?_, hI.th, by show va_up Ln 3000 (Ln 3000 + 1) 3000 ≤ _; rw [up_3000]; omega, up_3001 (Ln := Ln) (x := Ln 3000 + 1)⟩)
    rcases hy with e | e <;> rw [e]
    · exact Or.inl rfl
    · exact Or.inr rfl
  obtain ⟨⟨⟨q1, q2, q3, q4⟩, hS, hW⟩, hX, hO⟩ := id hI
  obtain ⟨qa, qb, qc⟩ := q3 j hj
  have m16 := qb.m16
  obtain ⟨t, ht⟩ := q4 l hl
  unfold mX11_lean
  refine T_inr (T_entryAt q1 q2 hj) (T_inr (T_entryAt q1 q2 hl) ?_)
  refine mTo.ite (fun _ => no _ (Or.inl rfl)) (fun _ => mTo.ite (fun _ => ?_) (fun _ => no _ (Or.inl rfl)))
  refine mTo.N (T_leads (by omega) ⟨q1, q2, q3, q4⟩ hj hl ht) (fun v _ hv => mTo.ite (fun h0 => ?_) (fun _ => no _ (Or.inr rfl)))
  rw [h0] at hv
  have hv := hv.resolve_left (fun c => c rfl)
  have ac : acyc (va_up Q j (qBd (Q j) (Qb (Q j)) (nI l) pl)) n := acyc_le q4 rfl hl hv
  obtain ⟨p3, e3, r1, r2, r3, r4⟩ := T_remember (F := F) (j := j) (l := 108) (by omega) hX.2.2.1 (by omega) (by decide) qa m16
  obtain ⟨u3, V3⟩ := p3
  have r1 := r1 (by decide) (by decide) (by decide)
  have r1 : undS V3 j (Q j) := r1
  have r2 : chS V3 := r2
  have r3 : ∀ i, i ≠ 9 → i ≠ 10 → V3.fI 0 i = V.fI 0 i := r3
  have r4 : mAv wX11_remember V V3 := r4
  refine T_iW e3 (mTo.lt (mTo.lt ?_))
  have fe : V3.fI (256 + 8 * j) = V.fI (256 + 8 * j) := (r4.1 _ (by unfold wX11_remember; omega)).1
  have re : V3.rI (256 + 8 * j + 1) = V.rI (256 + 8 * j + 1) := (r4.1 _ (by unfold wX11_remember; omega)).2.2.1
  have I3 : bST Ln (mF (mF V3 (256 + 8 * j) 3 (nI l)) (256 + 8 * j) 4 pl) n (va_up Q j (qBd (Q j) (Qb (Q j)) (nI l) pl)) := by
    refine hI.upB (w := fun i => wX11_remember i ∨ i = 256 + 8 * j) hj (mAv.F (mAv.F (mAv.tr mAv.rf r4 (fun _ z => Or.inl z)) (Or.inr rfl)) (Or.inr rfl)) (fun i i9 i10 => ?_) ?_ ?_ ?_ ?_ (fun z hz => ?_) (fun i i1 i2 i3 => ?_) ?_ rfl qc (fun i hi => ?_) ac (hO j hj)
    · rw [mF_no (Or.inl (by omega)), mF_no (Or.inl (by omega))]
      exact r3 i i9 i10
    · obtain ⟨fc, cc, c1, c2, c3, c4⟩ := r2
      exact ⟨fc, cc, c1, c2, by rw [mF_no (Or.inl (by omega)), mF_no (Or.inl (by omega))]; exact c3, by rw [mF_no (Or.inl (by omega)), mF_no (Or.inl (by omega))]; exact c4⟩
    · unfold wX11_remember; omega
    · unfold wX11_remember; omega
    · exact ⟨by unfold wX11_remember; omega, by unfold wX11_remember; omega⟩
    · unfold wX11_remember; omega
    · unfold wX11_remember; omega
    · obtain ⟨a0, a1, a2, a3, a4, a5, a6, a7, a8⟩ := qa
      have fx : ∀ x, x ≠ 3 → x ≠ 4 → (mF (mF V3 (256 + 8 * j) 3 (nI l)) (256 + 8 * j) 4 pl).fI (256 + 8 * j) x = V.fI (256 + 8 * j) x := fun x h6 h9 => by rw [mF_no (Or.inr h9), mF_no (Or.inr h6), fe]
      refine ⟨by rw [fx 0 (by decide) (by decide), a0]; rfl, by rw [fx 1 (by decide) (by decide), a1]; rfl, by rw [fx 2 (by decide) (by decide), a2]; rfl, by rw [mF_no (Or.inr (by decide)), mF_at]; rfl, by rw [mF_at]; rfl, by rw [fx 5 (by decide) (by decide), a5]; rfl, by rw [fx 6 (by decide) (by decide), a6]; rfl, fun y hy => ?_, a8⟩
      show V3.rI (256 + 8 * j + 1) y = _
      rw [re]
      exact a7 y hy
    · rw [mF_no (Or.inr (by omega)), mF_no (Or.inr (by omega)), fe]
  have u4 : undS (mF (mF V3 (256 + 8 * j) 3 (nI l)) (256 + 8 * j) 4 pl) j (Q j) := r1.mv (w := fun i => i = 256 + 8 * j) (mAv.F (mAv.F mAv.rf rfl) rfl) (by omega) (by omega) (by omega) (fun i _ _ => by omega)
  refine T_rfB hF I3.1 hj (fun L V4 r i f g => mTo.ret (Or.inl ⟨_, rfl, ac, lkP.st I3 ⟨r, i, g⟩, ?_, (lkP.at I3 ⟨r, i, g⟩).2.1, (lkP.at I3 ⟨r, i, g⟩).2.2⟩))
  exact u4.mv r.1 (by unfold wRf; omega) (by unfold wRf; omega) (by unfold wRf; omega) (fun i _ _ => by unfold wRf; omega)
theorem T_lean {G : wkG} {F n j l : Nat} {Q : Nat → qT} {Ln : Nat → Nat} {V : mV} {pl : Int32} (hF : 2 ^ 34 ≤ F) (hI : bST Ln V n Q) (hj : j < n) (hl : l < n) (hT : Ln 3000 < 5000) : mTo (mL_lean G F Ln (nI j) (nI l) pl V) (fun p => (∃ v : Int32, p.1 = Int32.toInt64 v ∧ bST p.2.1 p.2.2 n (va_up Q j (qBd (Q j) (Qb (Q j)) (nI l) pl)) ∧ undS p.2.2 j (Q j) ∧ p.2.1 3000 ≤ Ln 3000 ∧ p.2.1 3001 = Ln 3001) ∨ ((p.1 = -4000000000000000002 ∨ p.1 = -4000000000000000003) ∧ bAt Ln 1 n Q p.2.1 p.2.2)) := by
  unfold mL_lean
  refine mTo.B (T_leanI hF hI hj hl hT) (fun r L V1 _ h => ?_) (fun y L V1 _ h => ?_)
  · rcases h with ⟨v, h3, _, h4⟩ | ⟨hh, _⟩
    · cases h3
      exact mTo.ret (Or.inl ⟨_, rfl, h4⟩)
    · rcases hh with hh | hh <;> cases hh
  · rcases h with ⟨_, h3, _⟩ | ⟨hh, h2⟩
    · cases h3
    · rcases hh with hh | hh
      · cases hh
        rw [if_neg (by decide), if_pos rfl]
        exact mTo.ret (Or.inr ⟨Or.inl rfl, h2⟩)
      · cases hh
        rw [if_neg (by decide), if_neg (by decide), if_pos rfl]
        exact mTo.ret (Or.inr ⟨Or.inr rfl, h2⟩)
end
