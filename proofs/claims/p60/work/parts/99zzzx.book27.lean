/-! THE BOOK: the claims of an entry are settled. -/
section
def w90 (i : Nat) : Prop := i ≤ 90
/-- the claim at a is accepted -/
def acZ (Ln : Nat → Nat) (V : mV) (Q : Nat → qT) (a : Nat) : Prop := ∃ j xs, j < 12 ∧ V.fI a 1 = nI j ∧ rowIs Ln V (a + 1) xs ∧ if V.fI a 2 = 0 then aNo (Q j) (bnd Q j) xs else aYs (Q j) (bnd Q j) xs
theorem acZ.mv {Ln Ln1 : Nat → Nat} {V V1 : mV} {Q : Nat → qT} {a : Nat} (h : acZ Ln V Q a) (x : mAv w90 V V1) (y : mAl w90 Ln Ln1) (ha : 256 ≤ a) : acZ Ln1 V1 Q a := by
  obtain ⟨j, xs, h1, h2, h3, h4⟩ := h
  refine ⟨j, xs, h1, ?_, h3.mv2 x y (by unfold w90; omega) (by unfold w90; omega), ?_⟩
  · rw [(x.1 a (by unfold w90; omega)).1]; exact h2
  · rw [(x.1 a (by unfold w90; omega)).1]; exact h4
theorem frs.mv90 {V V1 : mV} {Q : Nat → qT} {j : Nat} (h : frs V Q j) (x : mAv w90 V V1) : frs V1 Q j := by
  unfold frs at h ⊢
  rw [(x.1 (256 + 8 * j) (by unfold w90; omega)).1]
  exact h
/-- the claims of j up to t are settled -/
def scP (Ln : Nat → Nat) (V : mV) (n j : Nat) (Q : Nat → qT) (t : Nat) (L : Nat → Nat) (V1 : mV) : Prop := bAt Ln 0 n Q L V1 ∧ mAv w90 V V1 ∧ mAl w90 Ln L ∧ (∃ c c1, V.fI 0 15 = nI c ∧ V1.fI 0 15 = nI c1 ∧ c ≤ 16 ∧ c1 ≤ c ∧ ∀ u, u < c1 → (∃ u0, u0 < c ∧ V1.cl u = V.cl u0) ∧ (u < t → V1.fI (V1.cl u) 1 = nI j → acZ L V1 Q (V1.cl u))) ∧ ∃ e e1, V.fI 0 17 = nI e ∧ V1.fI 0 17 = nI e1 ∧ e ≤ e1 ∧ e1 ≤ 8192 ∧ ((∀ u c, V.fI 0 15 = nI c → c ≤ 16 → u < c → V.fI (V.cl u) 1 = nI j → acZ Ln V Q (V.cl u)) → e1 = e)
theorem T_setClaims {F n j : Nat} {Q : Nat → qT} {Ln : Nat → Nat} {V : mV} (hF : 2 ^ 34 ≤ F) (hI : bST Ln V n Q) (hj : j < n) (hf : frs V Q j) : mTo (mX11_settleClaims F Ln (nI j) V) (fun p => scP Ln V n j Q 16 p.2.1 p.2.2) := by
  have n12 := hI.1.1.2.1
  obtain ⟨c0, d1, d2, d3, d4, d5⟩ := id hI.2.1.2.2.2.1
  obtain ⟨er, er1, er2, _⟩ := hI.2.1.2.2.2.2.2.1
  have go : ∀ k' t s c L (V1 : mV), 16 < s + k' → V1.fI 0 15 = nI c → c ≤ 16 → c + s ≤ t + 16 → t ≤ 16 → s ≤ 16 → scP Ln V n j Q t L V1 → mTo (mX11_settleClaims_go F k' 0 L (nI j) (nI t) (nI s) V1) (fun p => scP Ln V n j Q 16 p.2.1 p.2.2) := by
    intro k'
    induction k' with
    | zero => intro t s c L V1 h1 _ _ _ _ h2; omega
    | succ k' ih =>
      intro t s c L V1 h1 h2 h3 h4 h5 h6 hP
      have fin : c ≤ t → scP Ln V n j Q 16 L V1 := fun le => by
        obtain ⟨p1, p2, p3, ⟨c', c1, q1, q2, q3, q4, q5⟩, p5⟩ := hP
        rw [h2] at q2
        have := (nI_eq (by omega) (by omega)).mp q2
        exact ⟨p1, p2, p3, ⟨c', c1, q1, by rw [h2, this], q3, q4, fun u hu => ⟨(q5 u hu).1, fun _ => (q5 u hu).2 (by omega)⟩⟩, p5⟩
      rw [mX11_settleClaims_go, if_pos rfl]
      unfold mX11_settleClaims_b0
      refine mTo.le (a := 16) rfl rfl (by decide) (by omega) (fun z => mTo.ret (fin (by omega))) (fun z16 => ?_)
      refine mTo.le h2 rfl (by omega) (by omega) (fun z => mTo.ret (fin z)) (fun tc => ?_)
      refine mTo.ix rfl (show t < 16 by omega) (by decide) ?_
      rw [nI_clamp (n := t) (by omega)]
      obtain ⟨⟨I1, b2, b3⟩, p2, p3, ⟨c', c1, q1, q2, q3, q4, q5⟩, e, e1, r1, r2, r3, r4, r5⟩ := id hP
      rw [h2] at q2
      have ec := (nI_eq (by omega) (by omega)).mp q2
      subst ec
      obtain ⟨cx, x1, x2, x3, x4, x5⟩ := id I1.2.1.2.2.2.1
      rw [h2] at x1
      have ex := (nI_eq (by omega) (by omega)).mp x1
      subst ex
      obtain ⟨⟨z, z1, z2⟩, xs, y1⟩ := x3 t (by omega)
      obtain ⟨⟨jc, j1, j2⟩, jw⟩ := x5 t tc
      obtain ⟨⟨u0, u1, u2⟩, _⟩ := q5 t tc
      have nxt : ∀ (L2 : Nat → Nat) (V2 : mV), bAt L 0 n Q L2 V2 → mAv w90 V1 V2 → mAl w90 L L2 → V2.fI 0 15 = nI c → V2.cl = V1.cl → V2.fI 0 17 = nI e1 → (V2.fI (V2.cl t) 1 = nI j → acZ L2 V2 Q (V2.cl t)) → mTo (mX11_settleClaims_go F k' 0 L2 (nI j) (nI t + 1) (nI s + 1) V2) (fun p => scP Ln V n j Q 16 p.2.1 p.2.2) := fun L2 V2 g1 g2 g3 g4 g5 g6 g7 => by
        rw [nI_1, nI_1]
        refine ih (t + 1) (s + 1) c L2 V2 (by omega) g4 h3 (by omega) (by omega) (by omega) ⟨(show bAt Ln 0 n Q L V1 from ⟨I1, b2, b3⟩).tr g1 (by omega), mAv.tr p2 g2 (fun _ h => h), mAl.tr p3 g3 (fun _ h => h), ⟨c', c, q1, g4, q3, q4, fun u hu => ⟨by rw [g5]; exact (q5 u hu).1, fun ut hz => ?_⟩⟩, e, e1, r1, g6, r3, r4, r5⟩
        by_cases e : u = t
        · rw [e] at hz ⊢
          exact g7 hz
        · rw [g5] at hz ⊢
          obtain ⟨⟨zz, zz1, zz2⟩, _⟩ := x3 u (by omega)
          rw [(g2.1 (V1.cl u) (by rw [zz2]; unfold w90; omega)).1] at hz
          exact ((q5 u hu).2 (by omega) hz).mv g2 g3 (by rw [zz2]; omega)
      have frf : frs V1 Q j := hf.mv90 p2
      refine mTo.ite (fun hjc => ?_) (fun njc => mTo.lt (mTo.lt ?_))
      · refine mTo.ix rfl (show j < 12 by omega) (by decide) (mTo.ic rfl (show t < 16 by omega) (by decide) (mTo.ic rfl (show t < 16 by omega) (by decide) ?_))
        rw [nI_clamp (n := j) (by omega)]
        refine mTo.W (T_judgeAt (w := V1.fI (V1.cl t) 2) hF I1.1 hj frf (by rw [z2]; omega) y1) (fun v V2 _ h => ?_)
        obtain ⟨v0, v1, k2, f2⟩ := h
        have v1 : v = 0 ↔ if V1.fI (V1.cl t) 2 = 0 then aNo (Q j) (bnd Q j) xs else aYs (Q j) (bnd Q j) xs := v1
        have k2 : lkP L V1 n Q L V2 := k2
        have f2 : mAv (wX4_judge (256 + 8 * j) (V1.cl t + 1)) V1 V2 := f2
        have g2 : mAv w90 V1 V2 := mAv.tr mAv.rf f2 (fun i y => by unfold wX4_judge at y; unfold w90; omega)
        have f0 := (f2.1 0 (by unfold wX4_judge; omega)).1
        have cl2 : V2.cl = V1.cl := f2.2 (by unfold wX4_judge; omega)
        refine mTo.ite (fun hv => mTo.lt (mTo.lt ?_)) (fun hv => ?_)
        · refine nxt L V2 (lkP.at I1 k2) g2 mAl.rf (by rw [f0]; exact h2) cl2 (by rw [f0]; exact r2) (fun _ => ?_)
          rw [cl2]
          exact (show acZ L V1 Q (V1.cl t) from ⟨j, xs, by omega, hjc, y1, v1.mp hv⟩).mv g2 mAl.rf (by rw [z2]; omega)
        · have I2 := lkP.st I1 k2
          refine mTo.A (T_addError (by omega) I2) (fun _ L3 V3 _ h => ?_)
          obtain ⟨⟨B1, B2, B3⟩, g4, g5, g6, ea, eb, m1, m2, m3, m4⟩ := h
          have B1 : bST L3 V3 n Q := B1
          have B2 : L3 3000 ≤ L 3000 + 0 := B2
          have B3 : L3 3001 = L 3001 := B3
          have g4 : mAv wX11_addError V2 V3 := g4
          have g5 : mAl wX11_addError L L3 := g5
          have g6 : ∀ i, i ≠ 17 → V3.fI 0 i = V2.fI 0 i := g6
          have m2 : V3.fI 0 17 = nI eb := m2
          have cl3 : V3.cl = V1.cl := by rw [g4.2 (by unfold wX11_addError; omega), cl2]
          have h15 : V3.fI 0 15 = nI c := by rw [g6 15 (by decide), f0]; exact h2
          refine mTo.W (T_removeC (by omega) h15 h3 tc) (fun _ V4 _ h => mTo.lt ?_)
          obtain ⟨h7, h8⟩ := h
          have h7 : eqC (mF V3 0 15 (nI (c - 1))) V4 := h7
          have h8 : ∀ k, V4.cl k = V3.cl (sgC c t k) := h8
          obtain ⟨R1, R2, R3, R4⟩ := B1.rm h15 h3 tc h7 h8
          have G2 : mAv w90 V1 V4 := mAv.tr (mAv.tr g2 g4 (fun i y => by unfold wX11_addError at y; unfold w90; omega)) R2 (fun i y => by unfold w90; omega)
          have G3 : mAl w90 L L3 := fun i hi => g5 i (fun y => hi (by unfold wX11_addError at y; unfold w90; omega))
          have bad : ¬ (∀ u c, V.fI 0 15 = nI c → c ≤ 16 → u < c → V.fI (V.cl u) 1 = nI j → acZ Ln V Q (V.cl u)) := fun all => by
            have nz : ∀ a, V1.cl t = a → V.fI a = V1.fI a := fun a ha => ((p2.1 a (by rw [← ha, z2]; unfold w90; omega)).1).symm
            have := all u0 c' q1 q3 u1 (by rw [← u2, nz _ rfl]; exact hjc)
            rw [← u2] at this
            obtain ⟨j', xs', o1, o2, o3, o4⟩ := this.mv p2 p3 (by rw [z2]; omega)
            rw [hjc] at o2
            have oj := (nI_eq (by omega) (by omega)).mp o2
            subst oj
            rw [row_uq o3 y1] at o4
            exact hv (v1.mpr o4)
          have e17 : V2.fI 0 17 = nI e1 := by rw [f0]; exact r2
          rw [e17] at m1
          have ee := (nI_eq (by omega) (by omega)).mp m1
          rw [nI_1]
          refine ih t (s + 1) (c - 1) L3 V4 (by omega) R4 (by omega) (by omega) h5 (by omega) ⟨⟨R1, by omega, by rw [B3, b3]⟩, mAv.tr p2 G2 (fun _ h => h), mAl.tr p3 G3 (fun _ h => h), ⟨c', c - 1, q1, R4, q3, by omega, fun u hu => ?_⟩, e, eb, r1, by rw [R3 17 (by decide)]; exact m2, by omega, m4, fun all => absurd all bad⟩
          have lt : sgC c t u < c := by
            unfold sgC
            rw [if_neg (by omega)]
            split <;> omega
          rw [h8, cl3]
          refine ⟨(q5 _ lt).1, fun ut hz => ?_⟩
          have eu : sgC c t u = u := by
            unfold sgC
            rw [if_neg (by omega), if_neg (by omega)]
          rw [eu] at hz ⊢
          obtain ⟨⟨zz, zz1, zz2⟩, _⟩ := x3 u (by omega)
          rw [(G2.1 (V1.cl u) (by rw [zz2]; unfold w90; omega)).1] at hz
          exact ((q5 u (by omega)).2 ut hz).mv G2 G3 (by rw [zz2]; omega)
      · exact nxt L V1 ⟨I1, Nat.le_refl _, rfl⟩ mAv.rf mAl.rf h2 rfl r2 (fun y => absurd y njc)
  unfold mX11_settleClaims mX11_settleClaims_s
  refine go F 0 0 c0 Ln V (by omega) d1 d2 (by omega) (by omega) (by omega) ⟨⟨hI, Nat.le_refl _, rfl⟩, mAv.rf, mAl.rf, ⟨c0, c0, d1, d1, d2, Nat.le_refl _, fun u hu => ⟨⟨u, hu, rfl⟩, fun y => absurd y (Nat.not_lt_zero _)⟩⟩, er, er, er1, er1, Nat.le_refl _, er2, fun _ => rfl⟩
end
