/-! THE BOOK: a person joins; a step of the law. -/
section
theorem end_gh {Q : Nat → qT} {n : Nat} {q : qT} (hn : n ≤ 12) : ∀ t i, i < n → endQ Q n t i → endQ (va_up Q 100 q) n t i
  | 0, i, hi, h => by
    show Ql (va_up Q 100 q i) < 0
    rw [mUp_ne _ _ (by omega)]
    exact h
  | t + 1, i, hi, h => by
    obtain ⟨x, x1, x2, x3⟩ := h
    exact ⟨x, by rw [mUp_ne _ _ (by omega)]; exact x1, x2, end_gh hn t x x2 x3⟩
theorem T_person {G : wkG} {F n : Nat} {Q : Nat → qT} {Ln : Nat → Nat} {V : mV} (hI : bST Ln V n Q) (h0 : Qs (Q 100) = 0) : mTo (mL_person G F Ln V) (fun p => p.1 = 0 ∧ bST p.2.1 p.2.2 n (va_up Q 100 (newQ 0 1 0)) ∧ p.2.1 = Ln) := by
  obtain ⟨⟨⟨q1, q2, q3, q4⟩, hS, hW⟩, ⟨⟨ts, t1⟩, h2, ⟨fc, cc, c1, c2, c3, c4⟩, ⟨c, d1, d2, d3, d4, d5⟩, ⟨p, p1, p2, p3⟩, ⟨e, e1, e2⟩, k, k1, k2⟩, hO⟩ := hI
  rw [h0] at p3
  rw [p3] at p1
  unfold mL_person mX11_person
  rw [p1, if_pos (by decide)]
  refine mTo.B (Q := fun p => p = (.inr 0, Ln, mF V 0 13 (nI 0 + 1))) (mTo.lt (mTo.ret (by
    rw [mF_at]
    rfl))) (fun r L V1 _ h => ?_) (fun y L V1 _ h => by cases h)
  cases h
  have nq : ∀ i, i < 12 → va_up Q 100 (newQ 0 1 0) i = Q i := fun i hi => mUp_ne _ _ (by omega)
  have e0 : ∀ x, x ≠ 0 → (mF V 0 13 (nI 0 + 1)).fI x = V.fI x := fun x hx => by
    funext y
    exact mF_no (Or.inl hx)
  have a0 : mAv (fun i => i = 0) V (mF V 0 13 (nI 0 + 1)) := mAv.F mAv.rf rfl
  refine mTo.ret ⟨rfl, ⟨⟨⟨by rw [mF_no (Or.inr (by decide))]; exact q1, q2, fun i hi => ?_, fun i hi => ?_⟩, fun i hi => ?_, fun i hi => ?_⟩, ⟨⟨ts, t1.mv2 a0 (mAl.rf (w := fun i => i = 0)) (by decide) (by decide)⟩, fun j hj => ?_, ⟨fc, cc, c1, c2, by rw [mF_no (Or.inr (by decide))]; exact c3, by rw [mF_no (Or.inr (by decide))]; exact c4⟩, ⟨c, by rw [mF_no (Or.inr (by decide))]; exact d1, d2, fun i hi => ?_, d4, fun i hi => ?_⟩, ⟨1, by rw [mF_at]; rfl, by decide, by rw [mUp_eq]; rfl⟩, ⟨e, by rw [mF_no (Or.inr (by decide))]; exact e1, e2⟩, k, k1, k2⟩, fun i hi => ?_⟩, rfl⟩
  · rw [nq i (by omega)]
    obtain ⟨x, y⟩ := q3 i hi
    exact ⟨x.mv (fun z _ => by rw [e0 _ (by omega)]) rfl, y⟩
  · obtain ⟨t, ht⟩ := q4 i hi
    exact ⟨t, end_gh q2 t i hi ht⟩
  · rw [nq i (by omega), e0 _ (by omega)]
    intro h9
    obtain ⟨y1, y2, y3, y4⟩ := hS i hi h9
    exact ⟨y1, y2, y3, y4.mv2 a0 (mAl.rf (w := fun i => i = 0)) (by omega) (by omega)⟩
  · obtain ⟨xs, x⟩ := hW i hi
    exact ⟨xs, x.mv2 a0 (mAl.rf (w := fun i => i = 0)) (by omega) (by omega)⟩
  · obtain ⟨ys, y⟩ := h2 j hj
    exact ⟨ys, y.mv2 a0 (mAl.rf (w := fun i => i = 0)) (by omega) (by omega)⟩
  · obtain ⟨⟨z, z1, z2⟩, xs, x1⟩ := d3 i hi
    exact ⟨⟨z, z1, z2⟩, xs, x1.mv2 a0 (mAl.rf (w := fun i => i = 0)) (by show V.cl i + 1 ≠ 0; omega) (by show V.cl i + 1 + 1 ≠ 0; omega)⟩
  · obtain ⟨⟨z, z1, z2⟩, _⟩ := d3 i (by omega)
    obtain ⟨⟨j, j1, j2⟩, j3⟩ := d5 i hi
    show (∃ j, (mF V 0 13 (nI 0 + 1)).fI (V.cl i) 1 = nI j ∧ j < n) ∧ ((mF V 0 13 (nI 0 + 1)).fI (V.cl i) 2 = 0 ∨ (mF V 0 13 (nI 0 + 1)).fI (V.cl i) 2 = 1)
    rw [e0 _ (by omega)]
    exact ⟨⟨j, j1, j2⟩, j3⟩
  · rw [nq i (by omega)]
    exact hO i hi
/-- a step: it told a number that is not below 0, and can be undone; or nothing changed -/
def stepR (Ln : Nat → Nat) (c n j : Nat) (Q : Nat → qT) (is : Int64) (L : Nat → Nat) (V : mV) : Prop := (¬ lg_cmp is (0 : Int64) < 0 ∧ (∃ q', bST L V n (va_up Q j q')) ∧ undS V j (Q j) ∧ L 3000 ≤ Ln 3000 + c ∧ L 3001 = Ln 3001) ∨ (lg_cmp is (0 : Int64) < 0 ∧ bAt Ln c n Q L V)
theorem cmp_nn {x : Int32} (h : 0 ≤ x.toInt) : ¬ lg_cmp (Int32.toInt64 x) (0 : Int64) < 0 := fun c => by
  have y := Int64.lt_iff_toInt_lt.mp ((lg_cmp_lt _ _).mp c)
  rw [i64_of] at y
  have : (0 : Int64).toInt = 0 := rfl
  omega
theorem cmp_nI {v : Nat} (h : v < 2 ^ 31) : ¬ lg_cmp (Int32.toInt64 (nI v)) (0 : Int64) < 0 := cmp_nn (by rw [nI_toInt h]; exact Int.natCast_nonneg _)
theorem bAt.of {Ln : Nat → Nat} {n c : Nat} {Q : Nat → qT} {L : Nat → Nat} {V : mV} (h : bAt (va_up Ln 3000 (Ln 3000 + 1)) c n Q L V) : bAt Ln (c + 1) n Q L V := by
  obtain ⟨h1, h2, h3⟩ := h
  rw [up_3000] at h2
  rw [show (va_up Ln 3000 (Ln 3000 + 1)) 3001 = Ln 3001 from up_3001] at h3
  exact ⟨h1, by omega, h3⟩
/-- an item is put that the law draws -/
theorem T_wrP {G : wkG} {F n j a : Nat} {Q : Nat → qT} {Ln : Nat → Nat} {V : mV} (hL : G.1 9 ≤ 260) (hF : 2 ^ 34 ≤ F) (hI : bST Ln V n Q) (hj : j < n) (hT : Ln 3000 + 1 < 5000) (ha : a < 2 ^ 20) : mTo (mL_writes G F Ln (nI j) (-1) (nI a) V) (fun p => (∃ x, p.1 = Int32.toInt64 (nI (Qm (Q j) + 1)) ∧ bST p.2.1 p.2.2 n (va_up Q j (qIt (Q j) (Qm (Q j) + 1) x)) ∧ undS p.2.2 j (Q j) ∧ p.2.1 3000 ≤ Ln 3000 + 2 ∧ p.2.1 3001 = Ln 3001) ∨ ((p.1 = -4000000000000000002 ∨ p.1 = -4000000000000000003 ∨ p.1 = -4000000000000000004) ∧ bAt Ln 2 n Q p.2.1 p.2.2)) := by
  refine T_wrs hL hF hI hj (by omega) ha (fun t => ?_)
  unfold mL_writes_b2
  rw [if_neg (by decide)]
  refine (T_put (x := five (t 0) (t 1) (t 2) (t 3) (t 4)) hF hI.th hj (by rw [up_3000]; omega) rfl).mono (fun p h => ?_)
  rcases h with ⟨_, _, h3, h4, h5, h6⟩ | ⟨_, h2, h3⟩
  · refine Or.inl ⟨_, h3, h4, h5, ?_, ?_⟩
    · rw [h6, up_3000]; omega
    · rw [h6]; exact up_3001
  · exact Or.inr ⟨h2, h3.of⟩
theorem T_wrC {G : wkG} {F n j i a : Nat} {Q : Nat → qT} {Ln : Nat → Nat} {V : mV} (hL : G.1 9 ≤ 260) (hF : 2 ^ 34 ≤ F) (hI : bST Ln V n Q) (hj : j < n) (hi : i < Qm (Q j)) (hT : Ln 3000 + 1 < 5000) (ha : a < 2 ^ 20) : mTo (mL_writes G F Ln (nI j) (nI i) (nI a) V) (fun p => stepR Ln 2 n j Q p.1 p.2.1 p.2.2) := by
  have m16 := (hI.1.1.2.2.1 j hj).2.1.m16
  refine T_wrs hL hF hI hj (by omega) ha (fun t => ?_)
  unfold mL_writes_b2
  rw [if_pos (show (0 : Int32) ≤ nI i from i32le.mpr (by rw [nI_toInt (by omega)]; exact Int.natCast_nonneg _))]
  refine (T_change (x := five (t 0) (t 1) (t 2) (t 3) (t 4)) hF hI.th hj hi (by rw [up_3000]; omega) rfl).mono (fun p h => ?_)
  rcases h with ⟨v, h1, _, h3, h4, h5, h6⟩ | ⟨h2, h3⟩
  · refine Or.inl ⟨by rw [h3]; exact cmp_nI (by omega), ⟨_, h4⟩, h5, ?_, ?_⟩
    · rw [h6, up_3000]; omega
    · rw [h6]; exact up_3001
  · refine Or.inr ⟨?_, h3.of⟩
    rcases h2 with e | e <;> rw [e] <;> decide
theorem T_wrPs {G : wkG} {F n j a : Nat} {Q : Nat → qT} {Ln : Nat → Nat} {V : mV} (hL : G.1 9 ≤ 260) (hF : 2 ^ 34 ≤ F) (hI : bST Ln V n Q) (hj : j < n) (hT : Ln 3000 + 1 < 5000) (ha : a < 2 ^ 20) : mTo (mL_writes G F Ln (nI j) (-1) (nI a) V) (fun p => stepR Ln 2 n j Q p.1 p.2.1 p.2.2) := by
  have m16 := (hI.1.1.2.2.1 j hj).2.1.m16
  refine (T_wrP hL hF hI hj hT ha).mono (fun p h => ?_)
  rcases h with ⟨x, h1, h2, h3, h4, h5⟩ | ⟨h1, h2⟩
  · exact Or.inl ⟨by rw [h1]; exact cmp_nI (by omega), ⟨_, h2⟩, h3, h4, h5⟩
  · refine Or.inr ⟨?_, h2⟩
    rcases h1 with e | e | e <;> rw [e] <;> decide
theorem T_dropS {G : wkG} {F n j i : Nat} {Q : Nat → qT} {Ln : Nat → Nat} {V : mV} (hF : 2 ^ 34 ≤ F) (hI : bST Ln V n Q) (hj : j < n) (hT : Ln 3000 < 5000) (hi5 : i < 2 ^ 20) : mTo (mL_drop G F Ln (nI j) (nI i) V) (fun p => stepR Ln 1 n j Q p.1 p.2.1 p.2.2) := by
  have m16 := (hI.1.1.2.2.1 j hj).2.1.m16
  refine (T_drop hF hI hj hT hi5).mono (fun p h => ?_)
  rcases h with ⟨_, h1, h2, h3, h4⟩ | ⟨h1, h2⟩
  · exact Or.inl ⟨by rw [h1]; exact cmp_nI (by omega), ⟨_, h2⟩, h3, by rw [h4]; omega, by rw [h4]⟩
  · exact Or.inr ⟨by rw [h1]; decide, h2⟩
/-- a step is undone: the sum is as before -/
theorem T_undoS {G : wkG} {F n j : Nat} {Q : Nat → qT} {q' : qT} {Ln L : Nat → Nat} {V0 V : mV} (h0 : bST Ln V0 n Q) (hI : bST L V n (va_up Q j q')) (hj : j < n) (hu : undS V j (Q j)) : mTo (mL_undo G F L V) (fun p => ¬ lg_cmp p.1 (0 : Int64) < 0 ∧ bST p.2.1 p.2.2 n Q ∧ p.2.1 = L) := by
  obtain ⟨qa, qb, qc⟩ := h0.1.1.2.2.1 j hj
  refine (T_undoL hI hj hu qb qc h0.1.1.2.2.2 (h0.2.2 j hj)).mono (fun p h => ?_)
  obtain ⟨⟨l, l1, l2⟩, h2, h3⟩ := h
  exact ⟨by rw [l1]; exact cmp_nI (by omega), h2, h3⟩
end
