/-! THE BOOK: a claim is taken away: the book stands. -/
section
theorem bST.rm {Ln : Nat → Nat} {V V1 : mV} {n c i : Nat} {Q : Nat → qT} (h : bST Ln V n Q) (hc : V.fI 0 15 = nI c) (c16 : c ≤ 16) (hi : i < c) (e : eqC (mF V 0 15 (nI (c - 1))) V1) (cl : ∀ k, V1.cl k = V.cl (sgC c i k)) : bST Ln V1 n Q ∧ mAv (fun i => i = 0 ∨ i = 17) V V1 ∧ (∀ x, x ≠ 15 → V1.fI 0 x = V.fI 0 x) ∧ V1.fI 0 15 = nI (c - 1) := by
  obtain ⟨a1, a2, a3, a4⟩ := e
  have fx : ∀ x, x ≠ 0 → V1.fI x = V.fI x := fun x hx => by
    rw [a1]
    funext y
    exact mF_no (Or.inl hx)
  have f0 : ∀ x, x ≠ 15 → V1.fI 0 x = V.fI 0 x := fun x hx => by
    rw [a1]
    exact mF_no (Or.inr hx)
  have f15 : V1.fI 0 15 = nI (c - 1) := by
    rw [a1]
    exact mF_at
  have aw : mAv (fun i => i = 0 ∨ i = 17) V V1 := ⟨fun x hx => ⟨fx x (fun z => hx (Or.inl z)), by rw [a2]; rfl, by rw [a3]; rfl, by rw [a4]; rfl⟩, fun z => absurd (Or.inr rfl) z⟩
  have bw : mAl (fun i => i = 0 ∨ i = 17) Ln Ln := mAl.rf
  obtain ⟨hB, ⟨⟨us, u1⟩, h2, ⟨fc, cc, c1, c2, c3, c4⟩, ⟨c', d1, d2, d3, d4, d5⟩, ⟨p, p1, p2⟩, ⟨er, e1, e2⟩, k, k1, k2⟩, hO⟩ := h
  rw [hc] at d1
  have := (nI_eq (by omega) (by omega)).mp d1
  subst this
  refine ⟨⟨(hB.fr aw bw (f0 2 (by decide)) (fun i h1 h2 _ => by omega)).1, ⟨⟨us, u1.mv2 aw bw (by omega) (by omega)⟩, fun i hi => ?_, ⟨fc, cc, c1, c2, by rw [f0 9 (by decide)]; exact c3, by rw [f0 10 (by decide)]; exact c4⟩, ⟨c - 1, f15, by omega, fun t ht => ?_, fun a b h1 h2 => ?_, fun t ht => ?_⟩, ⟨p, by rw [f0 13 (by decide)]; exact p1, p2⟩, ⟨er, by rw [f0 17 (by decide)]; exact e1, e2⟩, k, k1, k2⟩, hO⟩, aw, f0, f15⟩
  · obtain ⟨ys, y⟩ := h2 i hi
    exact ⟨ys, y.mv2 aw bw (by omega) (by omega)⟩
  · rw [cl]
    obtain ⟨⟨z', z1', z2'⟩, xs', x1'⟩ := d3 (sgC c i t) (sgC_lt hi c16 ht)
    refine ⟨⟨z', z1', z2'⟩, xs', ?_⟩
    rw [z2'] at x1' ⊢
    exact x1'.mv2 aw bw (by omega) (by omega)
  · rw [cl, cl]
    have l1 := sgC_lt (c := c) (k := a) hi c16 (by omega)
    have l2 := sgC_lt (c := c) (k := b) hi c16 h2
    have ne : sgC c i a ≠ sgC c i b := fun e => by
      have := sgC_inj hi e
      omega
    rcases Nat.lt_or_ge (sgC c i a) (sgC c i b) with y | y
    · exact d4 _ _ y l2
    · exact fun e => d4 _ _ (show sgC c i b < sgC c i a by omega) l1 e.symm
  · rw [cl]
    have lt : sgC c i t < c := by
      unfold sgC
      rw [if_neg (by omega)]
      split <;> omega
    obtain ⟨⟨z', z1', z2'⟩, _⟩ := d3 (sgC c i t) (by omega)
    have := d5 (sgC c i t) lt
    rw [z2'] at this ⊢
    rw [fx _ (by omega)]
    exact this
end
