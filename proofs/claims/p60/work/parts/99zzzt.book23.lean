/-! THE BOOK: an entry is settled. -/
section
theorem bST.se {Ln Ln1 : Nat → Nat} {V V1 : mV} {n j : Nat} {Q : Nat → qT} {w : Nat → Prop} (h : bST Ln V n Q) (hj : j < n) (hw : ∀ i, w i ↔ i = 256 + 8 * j ∨ i = 256 + 8 * j + 4 ∨ i = 256 + 8 * j + 5) (a : mAv w V V1) (b : mAl w Ln Ln1) (fe : ∀ i, i ≠ 14 → i ≠ 15 → V1.fI (256 + 8 * j) i = V.fI (256 + 8 * j) i) (hy : ∃ ys, rowIs Ln1 V1 (256 + 8 * j + 4) ys) : bST Ln1 V1 n Q ∧ ∀ x, x < n → frs V Q x → frs V1 Q x := by
  obtain ⟨⟨⟨q1, q2, q3, q4⟩, hS, hW⟩, ⟨⟨us, u1⟩, h2, ⟨fc, cc, c1, c2, c3, c4⟩, ⟨c, d1, d2, d3, d4, d5⟩, ⟨p, p1, p2⟩, ⟨e, e1, e2⟩, k, k1, k2⟩, hO⟩ := h
  have nw : ∀ i, i ≠ 256 + 8 * j → i ≠ 256 + 8 * j + 4 → i ≠ 256 + 8 * j + 5 → ¬ w i := fun i h1 h2 h3 z => by
    rcases (hw i).mp z with y | y | y
    · exact h1 y
    · exact h2 y
    · exact h3 y
  have ff : ∀ i x, i < 12 → x ≠ 14 → x ≠ 15 → V1.fI (256 + 8 * i) x = V.fI (256 + 8 * i) x := fun i x hi h1 h2 => by
    by_cases e : i = j
    · rw [e]; exact fe x h1 h2
    · rw [(a.1 _ (nw _ (by omega) (by omega) (by omega))).1]
  have f0 := (a.1 0 (nw 0 (by omega) (by omega) (by omega))).1
  have cl4 : V1.cl = V.cl := a.2 (nw 17 (by omega) (by omega) (by omega))
  have b9 : Ln1 9 = Ln 9 := b 9 (nw 9 (by omega) (by omega) (by omega))
  refine ⟨⟨⟨⟨by rw [f0]; exact q1, q2, fun i hi => ?_, q4⟩, fun i hi h9 => ?_, fun i hi => ?_⟩, ⟨⟨us, u1.mv2 a b (nw _ (by omega) (by omega) (by omega)) (nw _ (by omega) (by omega) (by omega))⟩, fun i hi => ?_, ⟨fc, cc, c1, c2, by rw [f0]; exact c3, by rw [f0]; exact c4⟩, ⟨c, by rw [f0]; exact d1, d2, fun i hi => ?_, fun a b h1 h2 => by rw [cl4]; exact d4 a b h1 h2, fun i hi => ?_⟩, ⟨p, by rw [f0]; exact p1, p2⟩, ⟨e, by rw [f0]; exact e1, e2.1, by rw [b9]; exact e2.2⟩, k, k1, by rw [b9]; exact k2⟩, hO⟩, fun x hx hf => ?_⟩
  · obtain ⟨x, y⟩ := q3 i hi
    exact ⟨x.mv (fun z hz => ff i z (by omega) (by omega) (by omega)) (a.1 _ (nw _ (by omega) (by omega) (by omega))).2.2.1, y⟩
  · rw [ff i 9 (by omega) (by decide) (by decide)] at h9
    obtain ⟨y1, y2, y3, y4⟩ := hS i hi h9
    rw [ff i 10 (by omega) (by decide) (by decide), ff i 11 (by omega) (by decide) (by decide), ff i 12 (by omega) (by decide) (by decide)]
    exact ⟨y1, y2, y3, y4.mv2 a b (nw _ (by omega) (by omega) (by omega)) (nw _ (by omega) (by omega) (by omega))⟩
  · obtain ⟨xs, x⟩ := hW i hi
    exact ⟨xs, x.mv2 a b (nw _ (by omega) (by omega) (by omega)) (nw _ (by omega) (by omega) (by omega))⟩
  · by_cases e : i = j
    · rw [e]; exact hy
    · obtain ⟨ys, y⟩ := h2 i hi
      exact ⟨ys, y.mv2 a b (nw _ (by omega) (by omega) (by omega)) (nw _ (by omega) (by omega) (by omega))⟩
  · rw [cl4]
    obtain ⟨⟨z', z1', z2'⟩, xs', x1'⟩ := d3 i hi
    refine ⟨⟨z', z1', z2'⟩, xs', ?_⟩
    rw [z2'] at x1' ⊢
    exact x1'.mv2 a b (nw _ (by omega) (by omega) (by omega)) (nw _ (by omega) (by omega) (by omega))
  · rw [cl4]
    obtain ⟨⟨z', z1', z2'⟩, _⟩ := d3 i (by omega)
    have := d5 i hi
    rw [z2'] at this ⊢
    rw [(a.1 (1024 + 4 * z') (nw _ (by omega) (by omega) (by omega))).1]
    exact this
  · unfold frs at hf ⊢
    rw [ff x 8 (by omega) (by decide) (by decide), ff x 9 (by omega) (by decide) (by decide), ff x 10 (by omega) (by decide) (by decide)]
    exact hf
/-- the entry j is settled as it is -/
def setJ (Ln : Nat → Nat) (V : mV) (Q : Nat → qT) (j : Nat) : Prop := V.fI (256 + 8 * j) 14 ≠ 0 ∧ V.fI (256 + 8 * j) 15 = aRp (Q j) (bnd Q j) ∧ rowIs Ln V (256 + 8 * j + 4) (aRw (Q j) (bnd Q j))
theorem mK_st : ∀ j, j < 12 → mK (256 + 8 * j + 4) = 9 := by decide
theorem T_tailE {F n j : Nat} {Q : Nat → qT} {Ln : Nat → Nat} {V : mV} (hI : bST Ln V n Q) (hj : j < n) (hf : frs V Q j) : mTo (mLt (mF V (256 + 8 * j) 14 ((1 : Int32))) fun V2 => (if ¬ ((((V2.fI (256 + 8 * j) 11) : Int32).toUInt32 % 65536).toInt32 = (V2.fI (256 + 8 * j) 11)) then none else (mLt (mF V2 (256 + 8 * j) 15 ((V2.fI (256 + 8 * j) 11))) fun V4 => (mBA (mX9_copy F Ln (256 + 8 * j + 4) (256 + 8 * j + 2) V4) fun _ L6 V6 => some ((), L6, V6))))) (fun p => bST p.2.1 p.2.2 n Q ∧ (∀ x, x < n → frs V Q x → frs p.2.2 Q x) ∧ setJ p.2.1 p.2.2 Q j ∧ mAv (fun i => i = 256 + 8 * j ∨ i = 256 + 8 * j + 4 ∨ i = 256 + 8 * j + 5) V p.2.2 ∧ mAl (fun i => i = 256 + 8 * j ∨ i = 256 + 8 * j + 4 ∨ i = 256 + 8 * j + 5) Ln p.2.1) := by
  have n12 := hI.1.1.2.1
  obtain ⟨v1, v2, v3, v4, v5, v6⟩ := frs_val hI.1 hj hf
  have e11 : (mF V (256 + 8 * j) 14 1).fI (256 + 8 * j) 11 = aRp (Q j) (bnd Q j) := by
    rw [mF_no (Or.inr (by decide))]
    exact v1
  refine mTo.lt ?_
  rw [e11]
  refine mTo.gd (fun z => z (rp_yn v6)) (mTo.lt ?_)
  have a0 : mAv (fun i => i = 256 + 8 * j) V (mF (mF V (256 + 8 * j) 14 1) (256 + 8 * j) 15 (aRp (Q j) (bnd Q j))) := mAv.F (mAv.F mAv.rf rfl) rfl
  obtain ⟨ys, y1⟩ := hI.2.1.2.1 j (by omega)
  have g1 := y1.mv2 a0 (mAl.rf (w := fun i => i = 256 + 8 * j)) (by omega) (by omega)
  have g2 := v3.mv2 a0 (mAl.rf (w := fun i => i = 256 + 8 * j)) (by omega) (by omega)
  refine mTo.A (T_rcopy (mK_st j (by omega)) g1 g2 (by omega) (by omega) (by omega)) (fun _ L V1 _ h => mTo.ret ?_)
  obtain ⟨r1, r2, r3⟩ := h
  have r1 : rowIs L V1 (256 + 8 * j + 4) (aRw (Q j) (bnd Q j)) := r1
  have fz := (r2.1 (256 + 8 * j) (by unfold wX9_copy; omega)).1
  have fz : V1.fI (256 + 8 * j) = (mF (mF V (256 + 8 * j) 14 1) (256 + 8 * j) 15 (aRp (Q j) (bnd Q j))).fI (256 + 8 * j) := fz
  have aw : mAv (fun i => i = 256 + 8 * j ∨ i = 256 + 8 * j + 4 ∨ i = 256 + 8 * j + 5) V V1 := mAv.tr (mAv.tr mAv.rf a0 (fun i y => Or.inl y)) r2 (fun i y => by unfold wX9_copy at y; omega)
  have bw : mAl (fun i => i = 256 + 8 * j ∨ i = 256 + 8 * j + 4 ∨ i = 256 + 8 * j + 5) Ln L := fun i hi => r3 i (by unfold wX9_copy; omega)
  obtain ⟨s1, s2⟩ := hI.se hj (fun _ => Iff.rfl) aw bw (fun i h14 h15 => by rw [fz, mF_no (Or.inr h15), mF_no (Or.inr h14)]) ⟨_, r1⟩
  refine ⟨s1, s2, ⟨?_, ?_, r1⟩, aw, bw⟩
  · show V1.fI (256 + 8 * j) 14 ≠ 0
    rw [fz, mF_no (Or.inr (by decide)), mF_at]
    decide
  · show V1.fI (256 + 8 * j) 15 = _
    rw [fz, mF_at]
end
