/-! THE BOOK: an item is told anew, an item is dropped. -/
section
theorem isQn.put {V3 V' : mV} {e i m : Nat} {q : qT} {x : Nat → Int32} (h : isQn V3 e q) (h12 : ∀ j, j < 5 → V3.rI 12 j = x j) (hm : m = Qm q ∧ i < Qm q ∨ m = Qm q + 1 ∧ i = Qm q) (f : ∀ y, y ≠ 6 → y ≠ 9 → V'.fI e y = V3.fI e y) (f6 : V'.fI e 6 = nI m) (r : V'.rI (e + 1) = va_cpy (V3.rI 12) (V3.rI (e + 1)) 0 (5 * i) 5) : isQn V' e (qIt q m (addD q i x)) := by
  obtain ⟨a0, a1, a2, a3, a4, a5, a6, a7, a8⟩ := h
  refine ⟨by rw [f 0 (by decide) (by decide), a0]; rfl, by rw [f 1 (by decide) (by decide), a1]; rfl, by rw [f 2 (by decide) (by decide), a2]; rfl, by rw [f 3 (by decide) (by decide), a3]; rfl, by rw [f 4 (by decide) (by decide), a4]; rfl, by rw [f 5 (by decide) (by decide), a5]; rfl, by rw [f6]; rfl, fun y hy => ?_, fun y hy => ?_⟩
  · show V'.rI (e + 1) y = addD q i x y
    have hy : y < 5 * m := hy
    rw [r]
    unfold va_cpy addD
    by_cases cy : 5 * i ≤ y ∧ y < 5 * i + 5
    · rw [if_pos cy, if_pos cy, Nat.zero_add]
      exact h12 _ (by omega)
    · rw [if_neg cy, if_neg cy]
      exact a7 y (by omega)
  · have hy : 5 * m ≤ y := hy
    show addD q i x y = 0
    unfold addD
    rw [if_neg (by omega)]
    exact a8 y (by omega)
theorem T_countU {F e i : Nat} {q : qT} {V : mV} (hF : 64 ≤ F) (hq : isQn V e q) (m16 : Qm q ≤ 16) (hi : i < Qm q) : mTo (mX3_countUnlike F e (nI i) 12 V) (fun v => ∃ c, c ≤ 5 ∧ v = nI c) := by
  have go : ∀ k' k c, 5 < k + k' → k ≤ 5 → c ≤ k → mTo (mX3_countUnlike_go F k' 0 e (nI i) 12 (nI c) (nI k) V) (fun v => ∃ c, c ≤ 5 ∧ v = nI c) := by
    intro k'
    induction k' with
    | zero => intro k c h1 h2; omega
    | succ k' ih =>
      intro k c h1 h2 h3
      rw [mX3_countUnlike_go, if_pos rfl]
      unfold mX3_countUnlike_b0
      refine mTo.le (a := 5) rfl rfl (by decide) (by omega) (fun z => mTo.ret ⟨c, by omega, rfl⟩) (fun z => ?_)
      refine T_iN (T_item (F := F) hq.2.2.2.2.2.2.1 m16 hi (show k < 5 by omega) rfl rfl) ?_
      refine mTo.ix rfl (show k < mLen 12 from Nat.lt_of_lt_of_le (show k < 5 by omega) (by decide)) (by decide) (mTo.ite (fun _ => mTo.lt ?_) (fun _ => mTo.lt (mTo.lt ?_)))
      · rw [nI_1]
        exact ih (k + 1) c (by omega) (by omega) (by omega)
      · rw [nI_1, nI_1]
        exact ih (k + 1) (c + 1) (by omega) (by omega) (by omega)
  unfold mX3_countUnlike mX3_countUnlike_s
  exact go F 0 0 (by omega) (by omega) (by omega)
theorem T_changeI {F n j i : Nat} {Q : Nat → qT} {Ln : Nat → Nat} {V : mV} {a b c d e : Int32} {x : Nat → Int32} (hF : 2 ^ 34 ≤ F) (hI : bST Ln V n Q) (hj : j < n) (hi : i < Qm (Q j)) (hT : Ln 3000 < 5000) (hx : x = five a b c d e) : mTo (mX11_change F Ln (nI j) (nI i) a b c d e V) (fun p => (∃ v, v ≤ 5 ∧ itNew (Q j) i x ∧ p.1 = .inr (nI v) ∧ bST p.2.1 p.2.2 n (va_up Q j (qIt (Q j) (Qm (Q j)) (addD (Q j) i x))) ∧ undS p.2.2 j (Q j) ∧ p.2.1 = Ln) ∨ ((p.1 = .inl "java/lang/IllegalArgumentException" ∨ p.1 = .inl "java/lang/UnsupportedOperationException") ∧ bAt Ln 1 n Q p.2.1 p.2.2)) := by
  obtain ⟨⟨⟨q1, q2, q3, q4⟩, hS, hW⟩, hX, hO⟩ := id hI
  obtain ⟨qa, qb, qc⟩ := q3 j hj
  have m16 := qb.m16
  have k12 := qb.1
  unfold mX11_change
  refine T_inr (T_entryAt q1 q2 hj) ?_
  refine T_inr (a := ()) (Ln := Ln) (V := V) (by rw [qa.2.2.2.2.2.2.1, T_place hi (by omega)]) ?_
  obtain ⟨V1, e1, t1, f1⟩ := T_tellN (F := F) (a := a) (b := b) (c := c) (d := d) (e := e) (V := V)
  refine T_iW e1 ?_
  have I1 := hI.told f1
  obtain ⟨qa1, _, _⟩ := I1.1.1.2.2.1 j hj
  have nn := itNew_c (i := i) qb (nw_five hx t1)
  obtain ⟨p, e2, h2⟩ := T_testItem (F := F) (e := 256 + 8 * j) (i := i) (Ln := Ln) (by omega) qa1 qb (by omega) hT
  rw [nn] at h2
  rcases h2 with ⟨ok, hp⟩ | ⟨bad, y, hy, hp⟩
  · refine T_inr (a := ()) (Ln := Ln) (V := V1) (by rw [e2, hp]) ?_
    obtain ⟨p3, e3, r1, r2, r3, r4⟩ := T_remember (F := F) (j := j) (l := 99) (by omega) I1.2.1.2.2.1 (by omega) (by decide) qa1 m16
    obtain ⟨u3, V3⟩ := p3
    have r1 := r1 (by decide) (by decide) (by decide)
    have r1 : undS V3 j (Q j) := r1
    have r2 : chS V3 := r2
    have r3 : ∀ i, i ≠ 9 → i ≠ 10 → V3.fI 0 i = V1.fI 0 i := r3
    have r4 : mAv wX11_remember V1 V3 := r4
    refine T_iW e3 ?_
    have fe : V3.fI (256 + 8 * j) = V1.fI (256 + 8 * j) := (r4.1 _ (by unfold wX11_remember; omega)).1
    have re : V3.rI (256 + 8 * j + 1) = V1.rI (256 + 8 * j + 1) := (r4.1 _ (by unfold wX11_remember; omega)).2.2.1
    have r12 : V3.rI 12 = V1.rI 12 := (r4.1 _ (by unfold wX11_remember; omega)).2.2.1
    have qa3 : isQn V3 (256 + 8 * j) (Q j) := qa1.mv (fun i _ => by rw [fe]) re
    have q3' := hI.1.1.2.2.1
    refine mTo.N (T_countU (by omega) qa3 m16 hi) (fun v _ hv => ?_)
    obtain ⟨v0, v5, ev⟩ := hv
    refine T_iW (T_setItem (show i ≤ 15 by omega)) ?_
    refine mTo.lt (mTo.ret (Or.inl ⟨v0, v5, ok, by rw [ev], ?_, ?_, rfl⟩))
    · refine hI.ch hj ?_ (fun i i9 i10 => ?_) ?_ ?_ (ok_add qb ok (by omega) (Or.inl ⟨rfl, hi⟩) qb.2.2.2.1) qc mF_at (acyc_it q4 rfl) (hO j hj)
      · refine mAv.F (mAv.RI (mAv.tr (mAv.tr mAv.rf f1 (fun i z => ?_)) r4 (fun i z => ?_)) ?_) ?_
        · unfold wX11_tellNumbers at z; unfold wCh; omega
        · unfold wX11_remember at z; unfold wCh; omega
        · unfold wCh; omega
        · unfold wCh; omega
      · rw [mF_no (Or.inl (by omega))]
        show V3.fI 0 i = _
        rw [r3 i i9 i10, (f1.1 0 (by unfold wX11_tellNumbers; omega)).1]
      · obtain ⟨fc, cc, c1, c2, c3, c4⟩ := r2
        exact ⟨fc, cc, c1, c2, by rw [mF_no (Or.inl (by omega))]; exact c3, by rw [mF_no (Or.inl (by omega))]; exact c4⟩
      · refine qa3.put (fun y hy => by rw [r12]; exact nw_five hx t1 y hy) (Or.inl ⟨rfl, hi⟩) (fun y y6 y9 => by rw [mF_no (Or.inr y9)]; rfl) ?_ ?_
        · rw [mF_no (Or.inr (by decide))]
          exact qa3.2.2.2.2.2.2.1
        · show va_up V3.rI (256 + 8 * j + 1) _ (256 + 8 * j + 1) = _
          rw [mUp_eq]
    · exact r1.mv (w := fun i => i = 256 + 8 * j ∨ i = 256 + 8 * j + 1) (mAv.F (mAv.RI mAv.rf (Or.inr rfl)) (Or.inl rfl)) (by omega) (by omega) (by omega) (fun i _ _ => by omega)
  · refine T_inl (y := y) (Ln := va_up Ln 3000 (Ln 3000 + 1)) (V := V1) (by rw [e2, hp]) ?_
    refine mTo.ret (Or.inr ⟨?_, I1.th, by show va_up Ln 3000 (Ln 3000 + 1) 3000 ≤ _; rw [up_3000]; exact Nat.le_refl _, up_3001 (Ln := Ln) (x := Ln 3000 + 1)⟩)
    rcases hy with ey | ey
    · rw [ey]; exact Or.inl rfl
    · rw [ey]; exact Or.inr rfl
theorem T_change {G : wkG} {F n j i : Nat} {Q : Nat → qT} {Ln : Nat → Nat} {V : mV} {a b c d e : Int32} {x : Nat → Int32} (hF : 2 ^ 34 ≤ F) (hI : bST Ln V n Q) (hj : j < n) (hi : i < Qm (Q j)) (hT : Ln 3000 < 5000) (hx : x = five a b c d e) : mTo (mL_change G F Ln (nI j) (nI i) a b c d e V) (fun p => (∃ v, v ≤ 5 ∧ itNew (Q j) i x ∧ p.1 = Int32.toInt64 (nI v) ∧ bST p.2.1 p.2.2 n (va_up Q j (qIt (Q j) (Qm (Q j)) (addD (Q j) i x))) ∧ undS p.2.2 j (Q j) ∧ p.2.1 = Ln) ∨ ((p.1 = -4000000000000000003 ∨ p.1 = -4000000000000000004) ∧ bAt Ln 1 n Q p.2.1 p.2.2)) := by
  unfold mL_change
  refine mTo.B (T_changeI hF hI hj hi hT hx) (fun r L V1 _ h => ?_) (fun y L V1 _ h => ?_)
  · rcases h with ⟨v, h1, h2, h3, h4, h5, h6⟩ | ⟨hh, _⟩
    · cases h3
      exact mTo.ret (Or.inl ⟨v, h1, h2, rfl, h4, h5, h6⟩)
    · rcases hh with hh | hh <;> cases hh
  · rcases h with ⟨_, _, _, h3, _⟩ | ⟨hh, h2⟩
    · cases h3
    · rcases hh with hh | hh
      · cases hh
        rw [if_neg (by decide), if_neg (by decide), if_pos rfl]
        exact mTo.ret (Or.inr ⟨Or.inl rfl, h2⟩)
      · cases hh
        rw [if_neg (by decide), if_neg (by decide), if_neg (by decide), if_pos rfl]
        exact mTo.ret (Or.inr ⟨Or.inr rfl, h2⟩)
end
