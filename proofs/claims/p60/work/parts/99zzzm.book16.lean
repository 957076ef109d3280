/-! THE BOOK: a bound is set, an entry stands on its own, a step is undone. -/
section
theorem acyc_no {Q : Nat → qT} {n j : Nat} {q : qT} (h : acyc Q n) (e : Ql q < 0) : acyc (va_up Q j q) n := by
  have st : ∀ t i, i < n → endQ Q n t i → ∃ t', endQ (va_up Q j q) n t' i := by
    intro t
    induction t with
    | zero =>
      intro i _ h
      refine ⟨0, ?_⟩
      show Ql (va_up Q j q i) < 0
      by_cases c : i = j
      · rw [c, mUp_eq]; exact e
      · rw [mUp_ne _ _ c]; exact h
    | succ t ih =>
      intro i hi h
      by_cases c : i = j
      · refine ⟨0, ?_⟩
        show Ql (va_up Q j q i) < 0
        rw [c, mUp_eq]; exact e
      · obtain ⟨x, x1, x2, x3⟩ := h
        obtain ⟨t', h'⟩ := ih x x2 x3
        exact ⟨t' + 1, x, by rw [mUp_ne _ _ c]; exact x1, x2, h'⟩
  intro i hi
  obtain ⟨t, ht⟩ := h i hi
  exact st t i hi ht
theorem upup {Q : Nat → qT} {j : Nat} {q : qT} : va_up (va_up Q j q) j (Q j) = Q := by
  funext i
  by_cases c : i = j
  · rw [c, mUp_eq]
  · rw [mUp_ne _ _ c, mUp_ne _ _ c]
/-- the bound or the leaning of an entry is changed: its answer stays -/
theorem bST.upB {Ln : Nat → Nat} {V V1 : mV} {n j : Nat} {Q : Nat → qT} {q : qT} {w : Nat → Prop} (h : bST Ln V n Q) (hj : j < n) (a : mAv w V V1) (f0 : ∀ i, i ≠ 9 → i ≠ 10 → V1.fI 0 i = V.fI 0 i) (hc : chS V1) (w9 : ¬ w 9) (w17 : ¬ w 17) (wt : ¬ w 2048 ∧ ¬ w 2049) (wc : ∀ z, z < 64 → ¬ w (1024 + z)) (we : ∀ i, 256 ≤ i → i < 352 → i ≠ 256 + 8 * j → ¬ w i) (hq : isQn V1 (256 + 8 * j) q) (e1 : q.1 = (Q j).1) (hb : bndQ (Qk q) (Qb q)) (h9 : ∀ i, 9 ≤ i → V1.fI (256 + 8 * j) i = V.fI (256 + 8 * j) i) (hac : acyc (va_up Q j q) n) (hor : Qo q < 0 ∨ ∃ o, o < n ∧ Qo q = nI o) : bST Ln V1 n (va_up Q j q) := by
  have hx := h.upd (V1 := mF V1 (256 + 8 * j) 9 0) (w := fun i => w i ∨ i = 256 + 8 * j) hj (mAv.F (mAv.tr mAv.rf a (fun _ z => Or.inl z)) (Or.inr rfl)) mAl.rf (fun i h1 h2 => by rw [mF_no (Or.inl (by omega))]; exact f0 i h1 h2) (by
    obtain ⟨fc, cc, c1, c2, c3, c4⟩ := hc
    exact ⟨fc, cc, c1, c2, by rw [mF_no (Or.inl (by omega))]; exact c3, by rw [mF_no (Or.inl (by omega))]; exact c4⟩) (fun z => z.elim w9 (by omega)) (fun z => z.elim w17 (by omega)) ⟨fun z => z.elim wt.1 (by have := h.1.1.2.1; omega), fun z => z.elim wt.2 (by have := h.1.1.2.1; omega)⟩ (fun z hz y => y.elim (wc z hz) (by have := h.1.1.2.1; omega)) (fun i h1 h2 h3 _ y => y.elim (we i h1 h2 h3) h3) (hq.mv (fun i hi => by rw [mF_no (Or.inr (by omega))]) rfl) (by
    have := (h.1.1.2.2.1 j hj).2.1
    unfold okIt Qk Qs Qm Qd at this ⊢
    rw [e1]
    exact this) hb mF_at hac hor
  have n12 := h.1.1.2.1
  obtain ⟨⟨hQ, hS, hW⟩, hX, hO⟩ := hx
  have back : mAv (fun i => i = 256 + 8 * j) (mF V1 (256 + 8 * j) 9 0) V1 := ⟨fun i ne => ⟨by
    funext y
    rw [mF_no (Or.inl ne)], rfl, rfl, rfl⟩, fun _ => rfl⟩
  refine ⟨⟨⟨?_, hQ.2.1, fun i hi => ?_, hQ.2.2.2⟩, fun i hi hi9 => ?_, fun i hi => ?_⟩, ?_, hO⟩
  · have := hQ.1
    rw [mF_no (Or.inl (by omega))] at this
    exact this
  · obtain ⟨x, y⟩ := hQ.2.2.1 i hi
    refine ⟨?_, y⟩
    by_cases c : i = j
    · rw [c, mUp_eq]
      exact hq
    · exact x.mv (fun z _ => by rw [mF_no (Or.inl (by omega))]) rfl
  · by_cases c : i = j
    · rw [c, mUp_eq]
      rw [c] at hi9
      rw [h9 9 (by decide)] at hi9
      obtain ⟨y1, y2, y3, y4⟩ := h.1.2.1 j hj hi9
      have ea : ansT q (V.fI (256 + 8 * j) 10) = ansT (Q j) (V.fI (256 + 8 * j) 10) := ansT_c e1
      rw [h9 10 (by decide), h9 11 (by decide), h9 12 (by decide)]
      unfold aRp aTo aRw
      rw [ea]
      have ek : Qk q = Qk (Q j) := by unfold Qk; rw [e1]
      rw [ek]
      refine ⟨y1, y2, y3, y4.mv2 a (mAl.rf (w := w)) (we _ (by omega) (by omega) (by omega)) (we _ (by omega) (by omega) (by omega))⟩
    · rw [show V1.fI (256 + 8 * i) 9 = (mF V1 (256 + 8 * j) 9 0).fI (256 + 8 * i) 9 by rw [mF_no (Or.inl (by omega))]] at hi9
      obtain ⟨y1, y2, y3, y4⟩ := hS i hi hi9
      rw [mF_no (Or.inl (by omega))] at y1 y2 y3 y4
      rw [mF_no (Or.inl (by omega))] at y2 y3
      exact ⟨y1, y2, y3, y4.mv2 back (mAl.rf (w := fun i => i = 256 + 8 * j)) (by omega) (by omega)⟩
  · obtain ⟨xs, x⟩ := hW i hi
    exact ⟨xs, x.mv2 back (mAl.rf (w := fun i => i = 256 + 8 * j)) (by omega) (by omega)⟩
  · exact hX.fr back (mAl.rf (w := fun i => i = 256 + 8 * j)) (by omega) (by omega) (by omega) ⟨by omega, by omega⟩ (fun i hi => ⟨by omega, by omega⟩) (fun z hz => by omega)
/-- a step is undone -/
theorem T_undoL {G : wkG} {F n j : Nat} {Q : Nat → qT} {q : qT} {Ln : Nat → Nat} {V : mV} (hI : bST Ln V n (va_up Q j q)) (hj : j < n) (hu : undS V j (Q j)) (ho : okIt (Q j)) (hb : bndQ (Qk (Q j)) (Qb (Q j))) (hac : acyc Q n) (hor : Qo (Q j) < 0 ∨ ∃ o, o < n ∧ Qo (Q j) = nI o) : mTo (mL_undo G F Ln V) (fun p => (∃ l, p.1 = Int32.toInt64 (nI l) ∧ l < 128) ∧ bST p.2.1 p.2.2 n Q ∧ p.2.1 = Ln) := by
  have n12 := hI.1.1.2.1
  unfold mL_undo
  refine (T_wr (P := fun v L V1 => (∃ l, v = nI l ∧ l < 128) ∧ bST L V1 n Q ∧ L = Ln) ?_).mono (fun p ⟨v, e, ⟨l, h1, h2⟩, h3⟩ => ⟨⟨l, by rw [e, h1], h2⟩, h3⟩)
  refine (T_undo (by omega) hu ho.m16).mono (fun p h => ?_)
  obtain ⟨⟨l, p1, p2, p3⟩, p4, p5, p6, p7, p8, p9, p10⟩ := h
  refine ⟨nI l, p1, ⟨l, rfl, p3⟩, ?_, p4⟩
  have := hI.upd hj p10 (mAl.rf (w := fun a => a = 0 ∨ a = 256 + 8 * j ∨ a = 256 + 8 * j + 1)) (fun i _ h => p9 i h) p8 (by omega) (by omega) ⟨by omega, by omega⟩ (fun z hz => by omega) (fun i _ _ _ _ => by omega) p5 ho hb p6 (by rw [upup]; exact hac) hor
  rw [upup] at this
  rw [p4]
  exact this
theorem tabB : ∀ k, k < 12 → (wkTab 2 k).toInt = loB k ∧ (wkTab 3 k).toInt = hiB k := by decide
theorem T_canB {F k : Nat} {b : Int32} (hk : k < 12) : mTo (mX11_canHaveBound F (nI k) b) (fun v => (v = 0 ∨ v = 1) ∧ (v ≠ 0 ↔ bndQ k b)) := by
  obtain ⟨t2, t3⟩ := tabB k hk
  unfold mX11_canHaveBound
  refine mTo.ix rfl hk (by decide) (mTo.ite (fun h => mTo.ret ⟨Or.inl rfl, fun c => absurd rfl c, fun c => ?_⟩) (fun h => mTo.ix rfl hk (by decide) (mTo.ite (fun h2 => mTo.ret ⟨Or.inl rfl, fun c => absurd rfl c, fun c => ?_⟩) (fun h2 => mTo.ret ⟨Or.inr rfl, fun _ => ?_, fun _ => by decide⟩))))
  · have := i32lt.mp h
    rw [nI_clamp (by omega), t2] at this
    have := c.1
    omega
  · have := i32lt.mp h2
    rw [nI_clamp (by omega), t3] at this
    have := c.2
    omega
  · rw [nI_clamp (by omega)] at h h2
    refine ⟨?_, ?_⟩
    · rw [← t2]
      exact Int.not_lt.mp (fun z => h (i32lt.mpr z))
    · rw [← t3]
      exact Int.not_lt.mp (fun z => h2 (i32lt.mpr z))
/-- another bound, leaning, plus -/
def qBd (q : qT) (b l p : Int32) : qT := (q.1, b, l, p, Qo q)
theorem T_setBI {F n j : Nat} {Q : Nat → qT} {Ln : Nat → Nat} {V : mV} {b : Int32} (hF : 2 ^ 34 ≤ F) (hI : bST Ln V n Q) (hj : j < n) (hT : Ln 3000 < 5000) : mTo (mX11_setBound F Ln (nI j) b V) (fun p => (∃ v, bndQ (Qk (Q j)) b ∧ p.1 = .inr v ∧ bST p.2.1 p.2.2 n (va_up Q j (qBd (Q j) b (-1) (Qp (Q j)))) ∧ undS p.2.2 j (Q j) ∧ p.2.1 3000 ≤ Ln 3000 ∧ p.2.1 3001 = Ln 3001) ∨ (p.1 = .inl "java/lang/IllegalArgumentException" ∧ bAt Ln 1 n Q p.2.1 p.2.2)) := by
  have n12 := hI.1.1.2.1
  unfold mX11_setBound
  refine T_rfB hF hI.1 hj (fun L V1 r i f g => ?_)
  have I1 : bST L V1 n Q := lkP.st hI ⟨r, i, g⟩
  have th := bAt.tr (lkP.at hI ⟨r, i, g⟩) (lkP.at I1 (lkP.rf i)) (Nat.le_refl _)
  obtain ⟨_, th1, th2⟩ := th
  have th1 : L 3000 ≤ Ln 3000 := th1
  obtain ⟨⟨⟨q1, q2, q3, q4⟩, hS, hW⟩, hX, hO⟩ := id I1
  obtain ⟨qa, qb, qc⟩ := q3 j hj
  have m16 := qb.m16
  rw [qa.1]
  refine mTo.N (T_canB qb.1) (fun v _ hv => mTo.tf hv (fun h0 => mTo.th (by omega) (Or.inr ⟨rfl, I1.th, by show va_up L 3000 (L 3000 + 1) 3000 ≤ _; rw [up_3000]; omega, by show va_up L 3000 (L 3000 + 1) 3001 = _; rw [show (va_up L 3000 (L 3000 + 1)) 3001 = L 3001 from up_3001, th2]⟩)) (fun h1 => ?_))
  obtain ⟨p3, e3, r1, r2, r3, r4⟩ := T_remember (F := F) (j := j) (l := 98) (by omega) hX.2.2.1 (by omega) (by decide) qa m16
  obtain ⟨u3, V3⟩ := p3
  have r1 := r1 (by decide) (by decide) (by decide)
  have r1 : undS V3 j (Q j) := r1
  have r2 : chS V3 := r2
  have r3 : ∀ i, i ≠ 9 → i ≠ 10 → V3.fI 0 i = V1.fI 0 i := r3
  have r4 : mAv wX11_remember V1 V3 := r4
  refine T_iW e3 ?_
  have fe : V3.fI (256 + 8 * j) = V1.fI (256 + 8 * j) := (r4.1 _ (by unfold wX11_remember; omega)).1
  have re : V3.rI (256 + 8 * j + 1) = V1.rI (256 + 8 * j + 1) := (r4.1 _ (by unfold wX11_remember; omega)).2.2.1
  refine mTo.lt (mTo.lt (mTo.lt (mTo.ret (Or.inl ⟨_, h1, rfl, ?_, ?_, th1, th2⟩))))
  · refine I1.upB (w := fun i => wX11_remember i ∨ i = 256 + 8 * j) hj (mAv.F (mAv.F (mAv.tr mAv.rf r4 (fun _ z => Or.inl z)) (Or.inr rfl)) (Or.inr rfl)) (fun i i9 i10 => ?_) ?_ ?_ ?_ ?_ (fun z hz => ?_) (fun i i1 i2 i3 => ?_) ?_ rfl h1 (fun i hi => ?_) (acyc_no q4 (show (-1 : Int32) < 0 by decide)) (hO j hj)
    · rw [mF_no (Or.inl (by omega)), mF_no (Or.inl (by omega))]
      exact r3 i i9 i10
    · obtain ⟨fc, cc, c1, c2, c3, c4⟩ := r2
      exact ⟨fc, cc, c1, c2, by rw [mF_no (Or.inl (by omega)), mF_no (Or.inl (by omega))]; exact c3, by rw [mF_no (Or.inl (by omega)), mF_no (Or.inl (by omega))]; exact c4⟩
    · unfold wX11_remember; omega
    · unfold wX11_remember; omega
    · exact ⟨by unfold wX11_remember; omega, by unfold wX11_remember; omega⟩
    · unfold wX11_remember; omega
    · unfold wX11_remember; omega
    · obtain ⟨a0, a1, a2, a3, a4, a5, a6, a7, a8⟩ := qa
      have fx : ∀ x, x ≠ 2 → x ≠ 3 → (mF (mF V3 (256 + 8 * j) 2 b) (256 + 8 * j) 3 (-1)).fI (256 + 8 * j) x = V1.fI (256 + 8 * j) x := fun x h6 h9 => by rw [mF_no (Or.inr h9), mF_no (Or.inr h6), fe]
      refine ⟨by rw [fx 0 (by decide) (by decide), a0]; rfl, by rw [fx 1 (by decide) (by decide), a1]; rfl, by rw [mF_no (Or.inr (by decide)), mF_at]; rfl, by rw [mF_at]; rfl, by rw [fx 4 (by decide) (by decide), a4]; rfl, by rw [fx 5 (by decide) (by decide), a5]; rfl, by rw [fx 6 (by decide) (by decide), a6]; rfl, fun y hy => ?_, a8⟩
      show V3.rI (256 + 8 * j + 1) y = _
      rw [re]
      exact a7 y hy
    · rw [mF_no (Or.inr (by omega)), mF_no (Or.inr (by omega)), fe]
  · exact r1.mv (w := fun i => i = 256 + 8 * j) (mAv.F (mAv.F mAv.rf rfl) rfl) (by omega) (by omega) (by omega) (fun i _ _ => by omega)
theorem T_setBound {G : wkG} {F n j : Nat} {Q : Nat → qT} {Ln : Nat → Nat} {V : mV} {b : Int32} (hF : 2 ^ 34 ≤ F) (hI : bST Ln V n Q) (hj : j < n) (hT : Ln 3000 < 5000) : mTo (mL_setBound G F Ln (nI j) b V) (fun p => (∃ v : Int32, bndQ (Qk (Q j)) b ∧ p.1 = Int32.toInt64 v ∧ bST p.2.1 p.2.2 n (va_up Q j (qBd (Q j) b (-1) (Qp (Q j)))) ∧ undS p.2.2 j (Q j) ∧ p.2.1 3000 ≤ Ln 3000 ∧ p.2.1 3001 = Ln 3001) ∨ (p.1 = -4000000000000000002 ∧ bAt Ln 1 n Q p.2.1 p.2.2)) := by
  unfold mL_setBound
  refine mTo.B (T_setBI hF hI hj hT) (fun r L V1 _ h => ?_) (fun y L V1 _ h => ?_)
  · rcases h with ⟨v, h1, h3, h4⟩ | ⟨hh, _⟩
    · cases h3
      exact mTo.ret (Or.inl ⟨_, h1, rfl, h4⟩)
    · cases hh
  · rcases h with ⟨_, _, h3, _⟩ | ⟨hh, h2⟩
    · cases h3
    · cases hh
      rw [if_neg (by decide), if_pos rfl]
      exact mTo.ret (Or.inr ⟨rfl, h2⟩)
end
