/-! THE BOOK: rows are held against each other; a claim. -/
section
theorem T_rowsUnl {F r1 r2 : Nat} {Ln : Nat → Nat} {V : mV} {xs ys : List Int32} (hF : 4096 ≤ F) (h1 : rowIs Ln V r1 xs) (h2 : rowIs Ln V r2 ys) (hl : xs.length = ys.length) : mTo (mX9_firstUnlike F Ln r1 r2 V) (fun v => ∃ c, v = nI c ∧ c ≤ xs.length ∧ (c = xs.length ↔ xs = ys)) := by
  have n1 := h1.n
  have n2 := h2.n
  have l1 := h1.L
  have l2 := h2.L
  have m1 := h1.2.1
  have m2 := h2.2.1
  have go : ∀ k' i, xs.length < i + k' → i ≤ xs.length → (∀ j, j < i → xs.getD j 0 = ys.getD j 0) → mTo (mX9_firstUnlike_go F k' 0 Ln r1 r2 (nI xs.length) (nI i) V) (fun v => ∃ c, v = nI c ∧ c ≤ xs.length ∧ (c = xs.length ↔ xs = ys)) := by
    intro k'
    induction k' with
    | zero => intro i h1 h2; omega
    | succ k ih =>
      intro i a1 a2 a3
      rw [mX9_firstUnlike_go, if_pos rfl]
      unfold mX9_firstUnlike_b0
      refine mTo.le rfl rfl (by omega) (by omega) (fun z => mTo.ret ⟨_, rfl, Nat.le_refl _, fun _ => ?_, fun _ => rfl⟩) (fun z => mTo.ix rfl (by omega) (by omega) (mTo.ix rfl (by omega) (by omega) ?_))
      · refine List.ext_getElem hl (fun j j1 j2 => ?_)
        have := a3 j (by omega)
        rw [List.getD_eq_getElem?_getD, List.getD_eq_getElem?_getD, List.getElem?_eq_getElem j1, List.getElem?_eq_getElem j2] at this
        exact this
      · rw [nI_clamp (n := i) (by omega), h1.2.2.2 i z, h2.2.2.2 i (by omega)]
        refine mTo.ite (fun e => mTo.lt ?_) (fun ne => mTo.ret ⟨i, rfl, a2, fun c => by omega, fun c => absurd (by rw [c]) ne⟩)
        rw [nI_1]
        refine ih (i + 1) (by omega) (by omega) (fun j hj => ?_)
        rcases Nat.lt_or_ge j i with c | c
        · exact a3 j c
        · rw [show j = i by omega]; exact e
  unfold mX9_firstUnlike mX9_firstUnlike_s
  rw [h1.1, h2.1, hl, if_neg (show ¬ nI ys.length < nI ys.length from fun c => by
    have := i32lt.mp c
    omega)]
  refine mTo.lt ?_
  rw [← hl]
  exact go F 0 (by omega) (Nat.zero_le _) (fun j hj => absurd hj (Nat.not_lt_zero _))
theorem T_isLike {F r1 r2 : Nat} {Ln : Nat → Nat} {V : mV} {xs ys : List Int32} (hF : 4096 ≤ F) (h1 : rowIs Ln V r1 xs) (h2 : rowIs Ln V r2 ys) : mTo (mX9_isLike F Ln r1 r2 V) (fun v => (v = 0 ∨ v = 1) ∧ (v ≠ 0 ↔ xs = ys)) := by
  have n1 := h1.n
  have n2 := h2.n
  have m1 := h1.2.1
  have m2 := h2.2.1
  unfold mX9_isLike
  rw [h1.1, h2.1]
  refine mTo.eqI rfl rfl (by omega) (by omega) (fun z => ?_) (fun z => mTo.ret ⟨Or.inl rfl, fun c => absurd rfl c, fun c => absurd (by rw [c]) z⟩)
  refine mTo.N (T_rowsUnl hF h1 h2 z) (fun v _ hv => ?_)
  obtain ⟨c, c1, c2, c3⟩ := hv
  refine mTo.eqI c1 rfl (by omega) (by omega) (fun y => mTo.ret ⟨Or.inr rfl, fun _ => c3.mp y, fun _ => by decide⟩) (fun y => mTo.ret ⟨Or.inl rfl, fun c => absurd rfl c, fun c => absurd (c3.mpr c) y⟩)
theorem T_standsA {F n j : Nat} {Q : Nat → qT} {w : Int32} {Ln : Nat → Nat} {V : mV} {ts : List Int32} (hF : 4096 ≤ F) (hI : bST Ln V n Q) (ht : rowIs Ln V 2048 ts) : mTo (mX11_standsAlready F Ln (nI j) w V) (fun _ => True) := by
  obtain ⟨c, d1, d2, d3, d4, d5⟩ := hI.2.1.2.2.2.1
  have go : ∀ k' i, 16 < i + k' → i ≤ c → mTo (mX11_standsAlready_go F k' 0 Ln (nI j) w (nI i) V) (fun _ => True) := by
    intro k'
    induction k' with
    | zero => intro i h1 h2; omega
    | succ k ih =>
      intro i h1 h2
      have nx : i < c → mTo (mX11_standsAlready_go F k 0 Ln (nI j) w (nI i + 1) V) (fun _ => True) := fun h => by
        rw [nI_1]
        exact ih (i + 1) (by omega) (by omega)
      rw [mX11_standsAlready_go, if_pos rfl]
      unfold mX11_standsAlready_b0
      refine mTo.le d1 rfl (by omega) (by omega) (fun _ => mTo.ret trivial) (fun z => mTo.ix rfl (show i < 16 by omega) (by decide) ?_)
      rw [nI_clamp (n := i) (by omega)]
      obtain ⟨_, xs, x1⟩ := d3 i (by omega)
      exact mTo.ite (fun _ => mTo.ite (fun _ => mTo.N (T_isLike hF x1 ht) (fun v _ _ => mTo.ite (fun _ => mTo.lt (nx z)) (fun _ => mTo.ret trivial))) (fun _ => mTo.lt (nx z))) (fun _ => mTo.lt (nx z))
  unfold mX11_standsAlready mX11_standsAlready_s
  exact go F 0 (by omega) (Nat.zero_le _)
theorem mK_cl : ∀ z, z < 16 → mK (1024 + 4 * z + 1) = 9 := by decide
theorem T_beginC {F z j : Nat} {w : Int32} {Ln : Nat → Nat} {V : mV} {ts ys : List Int32} (hz : z < 16) (hw : w = 0 ∨ w = 1) (h1 : rowIs Ln V (1024 + 4 * z + 1) ys) (h2 : rowIs Ln V 2048 ts) : mTo (mX0_begin F Ln (1024 + 4 * z) 0 (nI j) w 2048 V) (fun p => p.2.2.fI (1024 + 4 * z) 1 = nI j ∧ p.2.2.fI (1024 + 4 * z) 2 = w ∧ rowIs p.2.1 p.2.2 (1024 + 4 * z + 1) ts ∧ mAv (fun i => i = 1024 + 4 * z ∨ i = 1024 + 4 * z + 1 ∨ i = 1024 + 4 * z + 2) V p.2.2 ∧ mAl (fun i => i = 1024 + 4 * z ∨ i = 1024 + 4 * z + 1 ∨ i = 1024 + 4 * z + 2) Ln p.2.1) := by
  unfold mX0_begin
  refine mTo.lt (mTo.lt (mTo.gd (fun c => c hw) (mTo.lt ?_)))
  have a0 : mAv (fun i => i = 1024 + 4 * z) V (mF (mF (mF V (1024 + 4 * z) 0 0) (1024 + 4 * z) 1 (nI j)) (1024 + 4 * z) 2 w) := mAv.F (mAv.F (mAv.F mAv.rf rfl) rfl) rfl
  have g1 := h1.mv2 a0 (mAl.rf (w := fun i => i = 1024 + 4 * z)) (by omega) (by omega)
  have g2 := h2.mv2 a0 (mAl.rf (w := fun i => i = 1024 + 4 * z)) (by omega) (by omega)
  refine mTo.A (T_rcopy (mK_cl z hz) g1 g2 (by omega) (by omega) (by omega)) (fun _ L V1 _ h => mTo.ret ?_)
  obtain ⟨r1, r2, r3⟩ := h
  have r1 : rowIs L V1 (1024 + 4 * z + 1) ts := r1
  have fz := (r2.1 (1024 + 4 * z) (by unfold wX9_copy; omega)).1
  refine ⟨?_, ?_, r1, mAv.tr (mAv.tr mAv.rf a0 (fun i y => Or.inl y)) r2 (fun i y => by unfold wX9_copy at y; omega), fun i hi => r3 i (by unfold wX9_copy; omega)⟩
  · show V1.fI (1024 + 4 * z) 1 = _
    rw [fz, mF_no (Or.inr (by decide)), mF_at]
  · show V1.fI (1024 + 4 * z) 2 = _
    rw [fz, mF_at]
theorem T_claimI {F n j : Nat} {Q : Nat → qT} {w : Int32} {Ln : Nat → Nat} {V : mV} {ts : List Int32} (hF : 2 ^ 34 ≤ F) (hI : bST Ln V n Q) (hj : j < n) (hp : Qs (Q 100) = 1) (hw : w = 0 ∨ w = 1) (hT : Ln 3000 < 5000) (ht : rowIs Ln V 2048 ts) : mTo (mX11_claim F Ln 0 (nI j) w V) (fun p => (∃ v : Int32, p.1 = .inr v ∧ 0 ≤ v.toInt ∧ (v = 0 ↔ if w = 0 then aNo (Q j) (bnd Q j) ts else aYs (Q j) (bnd Q j) ts) ∧ bAt Ln 1 n Q p.2.1 p.2.2) ∨ (p.1 = .inl "java/lang/IllegalStateException" ∧ (if w = 0 then aNo (Q j) (bnd Q j) ts else aYs (Q j) (bnd Q j) ts) ∧ bAt Ln 1 n Q p.2.1 p.2.2)) := by
  have n12 := hI.1.1.2.1
  have p13 : V.fI 0 13 = nI 1 := by
    obtain ⟨p, p1, p2, p3⟩ := hI.2.1.2.2.2.2.1
    rw [p1, p3, hp]
  unfold mX11_claim
  rw [if_neg (by decide), p13, if_pos (by decide)]
  refine T_rfB hF hI.1 hj (fun L V1 r i f g => ?_)
  have t1 := r.row ht (by unfold wRf; omega) (by unfold wRf; omega)
  have k1 : lkP Ln V n Q L V1 := ⟨r, i, g⟩
  refine mTo.W (T_judgeAt (w := w) hF i hj f (by decide) t1) (fun v V2 _ q => ?_)
  obtain ⟨v0, v1, k2, f2⟩ := q
  have v0 : 0 ≤ v.toInt := v0
  have v1 : v = 0 ↔ if w = 0 then aNo (Q j) (bnd Q j) ts else aYs (Q j) (bnd Q j) ts := v1
  have k2 : lkP L V1 n Q L V2 := k2
  have I2 : bST L V2 n Q := lkP.st hI (lkP.tr k1 k2)
  have at2 : bAt Ln 0 n Q L V2 := lkP.at hI (lkP.tr k1 k2)
  have th1 : L 3000 ≤ Ln 3000 := at2.2.1
  have th2 : L 3001 = Ln 3001 := at2.2.2
  have t2 := k2.1.row t1 (by unfold wRf; omega) (by unfold wRf; omega)
  have b1 : bAt Ln 1 n Q L V2 := ⟨I2, by omega, th2⟩
  refine mTo.ite (fun hv => ?_) (fun _ => mTo.ret (Or.inl ⟨v, rfl, v0, v1, b1⟩))
  refine mTo.N (T_standsA (by omega) I2 t2) (fun u _ _ => mTo.ite (fun _ => ?_) (fun _ => mTo.ret (Or.inl ⟨v, rfl, v0, v1, b1⟩)))
  obtain ⟨c, d1, d2, d3, d4, d5⟩ := id I2.2.1.2.2.2.1
  refine mTo.ltI (b := 16) d1 rfl (by omega) (by omega) (fun c16 => ?_) (fun _ => mTo.th (by omega) (Or.inr ⟨rfl, v1.mp hv, I2.th, by show va_up L 3000 (L 3000 + 1) 3000 ≤ _; rw [up_3000]; omega, by show va_up L 3000 (L 3000 + 1) 3001 = _; rw [show (va_up L 3000 (L 3000 + 1)) 3001 = L 3001 from up_3001, th2]⟩))
  refine mTo.ix d1 c16 (by decide) ?_
  rw [d1, nI_clamp (n := c) (by omega)]
  obtain ⟨⟨z, z1, z2⟩, xs, x1⟩ := d3 c c16
  rw [z2] at x1
  rw [z2]
  refine mTo.A (T_beginC z1 hw x1 t2) (fun _ L3 V3 _ h => mTo.lt ?_)
  obtain ⟨m1, m2, m3, m4, m5⟩ := h
  have m1 : V3.fI (1024 + 4 * z) 1 = nI j := m1
  have m2 : V3.fI (1024 + 4 * z) 2 = w := m2
  have m3 : rowIs L3 V3 (1024 + 4 * z + 1) ts := m3
  have m4 : mAv (fun i => i = 1024 + 4 * z ∨ i = 1024 + 4 * z + 1 ∨ i = 1024 + 4 * z + 2) V2 V3 := m4
  have m5 : mAl (fun i => i = 1024 + 4 * z ∨ i = 1024 + 4 * z + 1 ∨ i = 1024 + 4 * z + 2) L L3 := m5
  have f0 : V3.fI 0 = V2.fI 0 := (m4.1 0 (by omega)).1
  rw [f0, d1, nI_1]
  have fin : ∀ V4 : mV, mAv (fun i => i = 0 ∨ i = 16) V3 V4 → (∀ i, i ≠ 15 → V4.fI 0 i = V3.fI 0 i) → V4.fI 0 15 = nI (c + 1) → bAt Ln 1 n Q L3 V4 := fun V4 a4 g0 g15 => by
    have aw : mAv (fun i => i = 0 ∨ i = 16 ∨ i = 1024 + 4 * z ∨ i = 1024 + 4 * z + 1 ∨ i = 1024 + 4 * z + 2) V2 V4 := mAv.tr (mAv.tr mAv.rf m4 (fun i y => by omega)) a4 (fun i y => by omega)
    have aw' : mAl (fun i => i = 0 ∨ i = 16 ∨ i = 1024 + 4 * z ∨ i = 1024 + 4 * z + 1 ∨ i = 1024 + 4 * z + 2) L L3 := fun i hi => m5 i (by omega)
    have cl4 : V4.cl = V2.cl := by rw [a4.2 (by omega), m4.2 (by omega)]
    obtain ⟨⟨us, u1⟩, h2, ⟨fc, cc, c1, c2, c3, c4⟩, _, ⟨p, p1, p2⟩, ⟨e, e1, e2⟩, k, y1, y2⟩ := id I2.2.1
    have g0' : ∀ i, i ≠ 15 → V4.fI 0 i = V2.fI 0 i := fun i hi => by rw [g0 i hi, f0]
    refine ⟨⟨(I2.1.fr aw aw' (g0' 2 (by decide)) (fun i h1 h2 _ => by omega)).1, ⟨⟨us, u1.mv2 aw aw' (by omega) (by omega)⟩, fun i hi => ?_, ⟨fc, cc, c1, c2, by rw [g0' 9 (by decide)]; exact c3, by rw [g0' 10 (by decide)]; exact c4⟩, ⟨c + 1, g15, by omega, fun i hi => ?_, fun a b h1 h2 => by rw [cl4]; exact d4 a b h1 h2, fun i hi => ?_⟩, ⟨p, by rw [g0' 13 (by decide)]; exact p1, p2⟩, ⟨e, by rw [g0' 17 (by decide)]; exact e1, e2.1, by rw [aw' 9 (by omega)]; exact e2.2⟩, k, y1, by rw [aw' 9 (by omega)]; exact y2⟩, I2.2.2⟩, ?_, ?_⟩
    · obtain ⟨ys, y⟩ := h2 i hi
      exact ⟨ys, y.mv2 aw aw' (by omega) (by omega)⟩
    · rw [cl4]
      obtain ⟨⟨z', z1', z2'⟩, xs', x1'⟩ := d3 i hi
      refine ⟨⟨z', z1', z2'⟩, ?_⟩
      rw [z2'] at x1' ⊢
      by_cases ez : z' = z
      · rw [ez]
        exact ⟨ts, m3.mv2 a4 (mAl.rf (w := fun i => i = 0 ∨ i = 16)) (by omega) (by omega)⟩
      · exact ⟨xs', x1'.mv2 aw aw' (by omega) (by omega)⟩
    · rw [cl4]
      by_cases ei : i = c
      · rw [ei, z2, (a4.1 (1024 + 4 * z) (by omega)).1]
        exact ⟨⟨j, m1, hj⟩, by rw [m2]; exact hw⟩
      · obtain ⟨⟨z', z1', z2'⟩, _⟩ := d3 i (by omega)
        have ne : z' ≠ z := fun e => by
          rcases Nat.lt_or_ge i c with y | y
          · exact d4 i c y c16 (by rw [z2, z2', e])
          · exact d4 c i (by omega) (by omega) (by rw [z2, z2', e])
        have := d5 i (by omega)
        rw [z2'] at this ⊢
        rw [(aw.1 (1024 + 4 * z') (by omega)).1]
        exact this
    · rw [m5 3000 (by omega)]; omega
    · rw [m5 3001 (by omega)]; exact th2
  refine mTo.gd (by decide) (mTo.ite (fun _ => mTo.gd (by decide) (mTo.lt (mTo.ret (Or.inl ⟨0, rfl, by decide, ⟨fun _ => v1.mp hv, fun _ => rfl⟩, fin _ ?_ (fun i hi => ?_) ?_⟩)))) (fun _ => mTo.gd (by decide) (mTo.lt (mTo.ret (Or.inl ⟨0, rfl, by decide, ⟨fun _ => v1.mp hv, fun _ => rfl⟩, fin _ ?_ (fun i hi => ?_) ?_⟩)))))
  · exact mAv.I (mAv.F mAv.rf (Or.inl rfl)) (Or.inr rfl)
  · show (mF V3 0 15 (nI (c + 1))).fI 0 i = _
    exact mF_no (Or.inr hi)
  · show (mF V3 0 15 (nI (c + 1))).fI 0 15 = _
    exact mF_at
  · exact mAv.I (mAv.F mAv.rf (Or.inl rfl)) (Or.inr rfl)
  · show (mF V3 0 15 (nI (c + 1))).fI 0 i = _
    exact mF_no (Or.inr hi)
  · show (mF V3 0 15 (nI (c + 1))).fI 0 15 = _
    exact mF_at
/-- a claim: accepted if the row is, else a number above 0 -/
theorem T_claim {G : wkG} {F n j : Nat} {Q : Nat → qT} {w : Int32} {Ln : Nat → Nat} {V : mV} {ts : List Int32} (hF : 2 ^ 34 ≤ F) (hI : bST Ln V n Q) (hj : j < n) (hp : Qs (Q 100) = 1) (hw : w = 0 ∨ w = 1) (hT : Ln 3000 < 5000) (ht : rowIs Ln V 2048 ts) : mTo (mL_claim G F Ln 0 (nI j) w V) (fun p => (((if w = 0 then aNo (Q j) (bnd Q j) ts else aYs (Q j) (bnd Q j) ts) ∧ (p.1 = 0 ∨ p.1 = -4000000000000000002)) ∨ (¬ (if w = 0 then aNo (Q j) (bnd Q j) ts else aYs (Q j) (bnd Q j) ts) ∧ ∃ v : Int32, p.1 = Int32.toInt64 v ∧ 1 ≤ v.toInt)) ∧ bAt Ln 1 n Q p.2.1 p.2.2) := by
  unfold mL_claim
  refine mTo.B (T_claimI hF hI hj hp hw hT ht) (fun r L V1 _ h => ?_) (fun y L V1 _ h => ?_)
  · rcases h with ⟨v, h1, h2, h3, h4⟩ | ⟨hh, _⟩
    · cases h1
      refine mTo.ret ⟨?_, h4⟩
      by_cases c : r = 0
      · exact Or.inl ⟨h3.mp c, Or.inl (by rw [c]; rfl)⟩
      · refine Or.inr ⟨fun y => c (h3.mpr y), r, rfl, ?_⟩
        have : r.toInt ≠ 0 := fun y => c (Int32.toInt_inj.mp y)
        omega
    · cases hh
  · rcases h with ⟨_, h1, _⟩ | ⟨hh, h2, h3⟩
    · cases h1
    · cases hh
      rw [if_neg (by decide), if_pos rfl]
      exact mTo.ret ⟨Or.inl ⟨h2, Or.inr rfl⟩, h3⟩
end
