/-! THE BOOK: all is settled; once more costs nothing. -/
section
theorem acZ.fr {Ln Ln1 : Nat → Nat} {V V1 : mV} {Q : Nat → qT} {a : Nat} {w : Nat → Prop} (h : acZ Ln V Q a) (x : mAv w V V1) (y : mAl w Ln Ln1) (h0 : ¬ w a) (h1 : ¬ w (a + 1)) (h2 : ¬ w (a + 2)) : acZ Ln1 V1 Q a := by
  obtain ⟨j, xs, o1, o2, o3, o4⟩ := h
  refine ⟨j, xs, o1, ?_, o3.mv2 x y h1 h2, ?_⟩
  · rw [(x.1 a h0).1]; exact o2
  · rw [(x.1 a h0).1]; exact o4
/-- the claims of j are accepted -/
def acA (Ln : Nat → Nat) (V : mV) (Q : Nat → qT) (j : Nat) : Prop := ∀ c u, V.fI 0 15 = nI c → c ≤ 16 → u < c → V.fI (V.cl u) 1 = nI j → acZ Ln V Q (V.cl u)
theorem acA.fr {Ln Ln1 : Nat → Nat} {V V1 : mV} {n j : Nat} {Q : Nat → qT} {w : Nat → Prop} (h : acA Ln V Q j) (hI : bST Ln V n Q) (x : mAv w V V1) (y : mAl w Ln Ln1) (w17 : ¬ w 17) (wc : ∀ i, 1024 ≤ i → ¬ w i) (f15 : V1.fI 0 15 = V.fI 0 15) : acA Ln1 V1 Q j := by
  intro c u h1 h2 h3 h4
  obtain ⟨_, _, _, d3, _⟩ := hI.2.1.2.2.2.1
  obtain ⟨⟨z, z1, z2⟩, _⟩ := d3 u (by omega)
  rw [x.2 w17] at h4 ⊢
  rw [f15] at h1
  rw [(x.1 _ (wc _ (by omega))).1] at h4
  exact (h c u h1 h2 h3 h4).fr x y (wc _ (by omega)) (wc _ (by omega)) (wc _ (by omega))
theorem setJ.fr {Ln Ln1 : Nat → Nat} {V V1 : mV} {Q : Nat → qT} {j : Nat} {w : Nat → Prop} (h : setJ Ln V Q j) (x : mAv w V V1) (y : mAl w Ln Ln1) (h4 : ¬ w (256 + 8 * j + 4)) (h5 : ¬ w (256 + 8 * j + 5)) (f14 : V1.fI (256 + 8 * j) 14 = V.fI (256 + 8 * j) 14) (f15 : V1.fI (256 + 8 * j) 15 = V.fI (256 + 8 * j) 15) : setJ Ln1 V1 Q j := by
  obtain ⟨a, b, c⟩ := h
  exact ⟨by rw [f14]; exact a, by rw [f15]; exact b, c.mv2 x y h4 h5⟩
def allS (Ln : Nat → Nat) (V : mV) (Q : Nat → qT) (m : Nat) : Prop := ∀ j, j < m → setJ Ln V Q j ∧ acA Ln V Q j
theorem T_settleI {F n : Nat} {Q : Nat → qT} {Ln : Nat → Nat} {V : mV} (hF : 2 ^ 34 ≤ F) (hI : bST Ln V n Q) : mTo (mX11_settle F Ln V) (fun p => ∃ e0 e1, p.1 = .inr (nI e1 - nI e0) ∧ e0 ≤ e1 ∧ e1 ≤ 8192 ∧ bAt Ln 0 n Q p.2.1 p.2.2 ∧ allS p.2.1 p.2.2 Q n ∧ (allS Ln V Q n → e1 = e0)) := by
  have n12 := hI.1.1.2.1
  obtain ⟨e0, er1, er2, er3⟩ := hI.2.1.2.2.2.2.2.1
  have go : ∀ k' i L (V1 : mV), n < i + k' → i ≤ n → bAt Ln 0 n Q L V1 → allS L V1 Q i → (∃ e1, V1.fI 0 17 = nI e1 ∧ e0 ≤ e1 ∧ e1 ≤ 8192 ∧ (allS Ln V Q n → e1 = e0 ∧ allS L V1 Q n)) → mTo (mX11_settle_go F k' 0 L (nI e0) (nI i) V1) (fun p => ∃ e0 e1, p.1 = .inr (nI e1 - nI e0) ∧ e0 ≤ e1 ∧ e1 ≤ 8192 ∧ bAt Ln 0 n Q p.2.1 p.2.2 ∧ allS p.2.1 p.2.2 Q n ∧ (allS Ln V Q n → e1 = e0)) := by
    intro k'
    induction k' with
    | zero => intro i L V1 h1 h2; omega
    | succ k ih =>
      intro i L V1 h1 h2 h3 h4 h5
      obtain ⟨e1, g1, g2, g3, g4⟩ := h5
      rw [mX11_settle_go, if_pos rfl]
      unfold mX11_settle_b0
      refine mTo.le h3.1.1.1.1 rfl (by omega) (by omega) (fun z => mTo.ret ⟨e0, e1, by rw [g1], g2, g3, h3, by rw [show i = n by omega] at h4; exact h4, fun y => (g4 y).1⟩) (fun z => ?_)
      refine T_rfB hF h3.1.1 z (fun L2 V2 r i2 f g => ?_)
      have I2 : bST L2 V2 n Q := lkP.st h3.1 ⟨r, i2, g⟩
      have A2 : bAt Ln 0 n Q L2 V2 := h3.tr (lkP.at h3.1 ⟨r, i2, g⟩) (by omega)
      have f0 : V2.fI 0 = V1.fI 0 := (r.1.1 0 (by unfold wRf; omega)).1
      have s2 : ∀ j, j < n → setJ L V1 Q j ∧ acA L V1 Q j → setJ L2 V2 Q j ∧ acA L2 V2 Q j := fun j hj h => ⟨h.1.fr r.1 r.2.1 (by unfold wRf; omega) (by unfold wRf; omega) (r.2.2 j (by omega) 14 (by decide) (by decide) (by decide) (by decide) (by decide)) (r.2.2 j (by omega) 15 (by decide) (by decide) (by decide) (by decide) (by decide)), h.2.fr h3.1 r.1 r.2.1 (by unfold wRf; omega) (fun x hx => by unfold wRf; omega) (by rw [f0])⟩
      refine mTo.A (T_setEntry (by omega) I2 z f) (fun _ L3 V3 _ h => ?_)
      obtain ⟨b1, b2, b3, b4, b5, b6, ea, eb, c1, c2, c3, c4, c5⟩ := h
      have b1 : bAt L2 0 n Q L3 V3 := b1
      have b2 : ∀ x, x < n → frs V2 Q x → frs V3 Q x := b2
      have b3 : setJ L3 V3 Q i := b3
      have b4 : mAv (wSe i) V2 V3 := b4
      have b5 : mAl (wSe i) L2 L3 := b5
      have b6 : ∀ i, i ≠ 17 → V3.fI 0 i = V2.fI 0 i := b6
      have c2 : V3.fI 0 17 = nI eb := c2
      rw [f0, g1] at c1
      have ee := (nI_eq (by omega) (by omega)).mp c1
      have a3 : ∀ j, j < n → acA L2 V2 Q j → acA L3 V3 Q j := fun j hj h => h.fr I2 b4 b5 (by unfold wSe; omega) (fun x hx => by unfold wSe; omega) (b6 15 (by decide))
      have s3 : ∀ j, j < n → setJ L2 V2 Q j ∧ acA L2 V2 Q j → setJ L3 V3 Q j ∧ acA L3 V3 Q j := fun j hj h => by
        refine ⟨?_, a3 j hj h.2⟩
        by_cases e : j = i
        · rw [e]; exact b3
        · have fe := (b4.1 (256 + 8 * j) (by unfold wSe; omega)).1
          exact h.1.fr b4 b5 (by unfold wSe; omega) (by unfold wSe; omega) (by rw [fe]) (by rw [fe])
      refine mTo.A (T_setClaims hF b1.1 z (b2 i z f)) (fun _ L4 V4 _ h => mTo.lt ?_)
      obtain ⟨d1, d2, d3, ⟨c, cc, k1, k2, k3, k4, k5⟩, ec, ed, m1, m2, m3, m4, m5⟩ := h
      have d1 : bAt L3 0 n Q L4 V4 := d1
      have d2 : mAv w90 V3 V4 := d2
      have d3 : mAl w90 L3 L4 := d3
      have k2 : V4.fI 0 15 = nI cc := k2
      have k5 : ∀ u, u < cc → (∃ u0, u0 < c ∧ V4.cl u = V3.cl u0) ∧ (u < 16 → V4.fI (V4.cl u) 1 = nI i → acZ L4 V4 Q (V4.cl u)) := k5
      have m2 : V4.fI 0 17 = nI ed := m2
      rw [c2] at m1
      have ee2 := (nI_eq (by omega) (by omega)).mp m1
      obtain ⟨_, _, _, dd3, _⟩ := id b1.1.2.1.2.2.2.1
      have a4 : ∀ j, j < n → acA L3 V3 Q j → acA L4 V4 Q j := fun j hj h => by
        intro c' u y1 y2 y3 y4
        rw [k2] at y1
        have := (nI_eq (by omega) (by omega)).mp y1
        subst this
        obtain ⟨u0, u1, u2⟩ := (k5 u y3).1
        obtain ⟨⟨zz, zz1, zz2⟩, _⟩ := dd3 u0 (by omega)
        rw [u2] at y4 ⊢
        rw [(d2.1 (V3.cl u0) (by rw [zz2]; unfold w90; omega)).1] at y4
        exact (h c u0 k1 k3 u1 y4).mv d2 d3 (by rw [zz2]; omega)
      have s4 : ∀ j, j < n → setJ L3 V3 Q j → setJ L4 V4 Q j := fun j hj h => by
        have fe := (d2.1 (256 + 8 * j) (by unfold w90; omega)).1
        exact h.fr d2 d3 (by unfold w90; omega) (by unfold w90; omega) (by rw [fe]) (by rw [fe])
      rw [nI_1]
      refine ih (i + 1) L4 V4 (by omega) (by omega) ((show bAt Ln 0 n Q L3 V3 from A2.tr b1 (by omega)).tr d1 (by omega)) (fun j hj => ?_) ⟨ed, m2, by omega, m4, fun y => ?_⟩
      · by_cases e : j = i
        · rw [e]
          refine ⟨s4 i z b3, fun c' u y1 y2 y3 y4 => ?_⟩
          rw [k2] at y1
          have := (nI_eq (by omega) (by omega)).mp y1
          subst this
          exact (k5 u y3).2 (by omega) y4
        · have h := s3 j (by omega) (s2 j (by omega) (h4 j (by omega)))
          exact ⟨s4 j (by omega) h.1, a4 j (by omega) h.2⟩
      · obtain ⟨w1, w2⟩ := g4 y
        have e3 := c5 (s2 i z (w2 i z)).1
        have e4 := m5 (fun u c' y1 y2 y3 y4 => (s3 i z (s2 i z (w2 i z))).2 c' u y1 y2 y3 y4)
        refine ⟨by omega, fun j hj => ?_⟩
        have h := s3 j hj (s2 j hj (w2 j hj))
        exact ⟨s4 j hj h.1, a4 j hj h.2⟩
  unfold mX11_settle mX11_settle_s
  rw [er1]
  refine mTo.lt (mTo.lt ?_)
  have a0 : mAv (fun i => i = 0) V (mF V 0 18 (V.fI 0 18 + 1)) := mAv.F mAv.rf rfl
  have al0 : mAl (fun i => i = 0) Ln Ln := mAl.rf
  have g0 : ∀ x, x ≠ 18 → (mF V 0 18 (V.fI 0 18 + 1)).fI 0 x = V.fI 0 x := fun x hx => mF_no (Or.inr hx)
  have I0 : bST Ln (mF V 0 18 (V.fI 0 18 + 1)) n Q := hI.er (mAv.F mAv.rf (Or.inl rfl)) mAl.rf (fun x _ hx => g0 x hx) ⟨e0, by rw [g0 17 (by decide)]; exact er1, er2, er3⟩ hI.2.1.2.2.2.2.2.2
  have s0 : allS Ln V Q n → allS Ln (mF V 0 18 (V.fI 0 18 + 1)) Q n := fun h j hj => by
    have fe := (a0.1 (256 + 8 * j) (by omega)).1
    exact ⟨(h j hj).1.fr a0 al0 (by omega) (by omega) (by rw [fe]) (by rw [fe]), (h j hj).2.fr hI a0 al0 (by omega) (fun x hx => by omega) (g0 15 (by decide))⟩
  exact go F 0 Ln _ (by omega) (Nat.zero_le _) ⟨I0, Nat.le_refl _, rfl⟩ (fun j hj => absurd hj (Nat.not_lt_zero _)) ⟨e0, by rw [g0 17 (by decide)]; exact er1, Nat.le_refl _, er2, fun y => ⟨rfl, s0 y⟩⟩
end
