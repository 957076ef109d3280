/-! THE LAW: bring. -/
section
theorem bST.br {Ln L : Nat → Nat} {V V1 : mV} {n : Nat} {Q : Nat → qT} {ts : List Int32} (h : bST Ln V n Q) (hb : brI Ln V L V1 ts) : bST L V1 n Q ∧ L 3000 = Ln 3000 ∧ L 3001 = Ln 3001 := by
  obtain ⟨r, a, b⟩ := hb
  have x := h.1.fr a b (by rw [(a.1 0 (by omega)).1]) (fun i _ h2 _ c => by omega)
  exact ⟨⟨x.1, h.2.1.ty a b (by omega) (by omega) (by omega) ⟨ts, r⟩ (fun j hj => ⟨by omega, by omega⟩) (fun z hz => by omega), h.2.2⟩, b 3000 (by omega), b 3001 (by omega)⟩
/-- e is the flow that o becomes -/
def FLq (Q : Nat → qT) (o e : Nat) : Prop := Qk (Q o) = 0 ∧ Qk (Q e) = 1 ∧ okFq (Q o) ∧ (flq (Q o) (bnd Q o)).1 = (Q e).1 ∧ Qb (flq (Q o) (bnd Q o)) = bnd Q e
def brP (Ln : Nat → Nat) (n : Nat) (Q : Nat → qT) (o e : Nat) (p : (String ⊕ Int32) × (Nat → Nat) × mV) : Prop := (∃ ts : List Int32, p.1 = .inr (nI ts.length) ∧ ts.length ≤ 1024 ∧ rowIs p.2.1 p.2.2 2048 ts ∧ ((aRp (Q o) (bnd Q o) = 121 ∧ aYs (Q o) (bnd Q o) ts) ∨ (aRp (Q o) (bnd Q o) = 110 ∧ aNo (Q o) (bnd Q o) ts)) ∧ bAt Ln 1 n Q p.2.1 p.2.2) ∨ (p.1 = .inl "java/lang/UnsupportedOperationException" ∧ ¬ FLq Q o e ∧ bAt Ln 1 n Q p.2.1 p.2.2)
theorem T_bringI {F n e o : Nat} {Q : Nat → qT} {Ln : Nat → Nat} {V : mV} (hF : 2 ^ 34 ≤ F) (hI : bST Ln V n Q) (he : e < n) (on : o < n) (eo : Qo (Q e) = nI o) (hT : Ln 3000 < 5000) : mTo (mX11_bring F Ln (nI e) V) (brP Ln n Q o e) := by
  have n12 := hI.1.1.2.1
  have b0 : ∀ k' L V1, 1 ≤ k' → bAt Ln 0 n Q L V1 → frs V1 Q e → frs V1 Q o → mTo (mX11_bring_go F k' 0 L (256 + 8 * e) V1) (brP Ln n Q o e) := fun k' L V1 h1 hA fe fo => by
    obtain ⟨k', rfl⟩ : ∃ z, k' = z + 1 := ⟨k' - 1, by omega⟩
    have hL : L 3000 ≤ Ln 3000 := hA.2.1
    rw [mX11_bring_go, if_pos rfl]
    unfold mX11_bring_b0
    have thr : ∀ V2, bST L V2 n Q → ¬ FLq Q o e → mTo (mTh L "java/lang/UnsupportedOperationException" V2) (brP Ln n Q o e) := fun V2 I2 hn => mTo.th (by omega) (Or.inr ⟨rfl, hn, I2.th, by show va_up L 3000 (L 3000 + 1) 3000 ≤ _; rw [up_3000]; omega, (up_3001 (Ln := L) (x := L 3000 + 1)).trans hA.2.2⟩)
    have uq : ∀ o', o' < n → Qo (Q e) = nI o' → o' = o := fun o' h1 h2 => ((nI_eq (by omega) (by omega)).mp (eo.symm.trans h2)).symm
    refine mTo.W (T_wouldBe hF hA.1 he fe (fun o' o1 o2 => by rw [uq o' o1 o2]; exact fo)) (fun v V2 _ h => ?_)
    obtain ⟨h, fr⟩ := h
    have fr : mAv wDk V1 V2 := fr
    obtain ⟨I2, f2⟩ := hA.1.dk fr
    rcases h with ⟨h, hn⟩ | ⟨h, o', o1, o2, cm⟩
    · have h : v = 0 := h
      rw [if_pos h]
      exact thr V2 I2 (fun c => hn o on eo c.1 c.2.1 c.2.2.1 c.2.2.2.1 c.2.2.2.2)
    · have h : v = 1 := h
      rw [uq o' o1 o2] at cm
      have rpE := cm_rp cm
      obtain ⟨dq, dc, e1, e2⟩ := cm
      have ke : Qk dq = Qk (Q e) := congrArg (fun t => t.1) e1
      have ay : aYs dq (Qb dq) = aYs (Q e) (bnd Q e) := by rw [e2]; unfold aYs; rw [ansT_c e1]
      have an : aNo dq (Qb dq) = aNo (Q e) (bnd Q e) := by rw [e2]; unfold aNo; rw [ansT_c e1]
      obtain ⟨x1, _, x3, x4, x5, x6⟩ := frs_val I2.1 he (f2 e he fe)
      obtain ⟨z1, _, z3, z4, z5, z6⟩ := frs_val I2.1 on (f2 o on fo)
      obtain ⟨oa, ob, oc⟩ := I2.1.1.2.2.1 o on
      obtain ⟨ea, eb, ec⟩ := I2.1.1.2.2.1 e he
      have k12 := ob.1
      have ke12 := eb.1
      obtain ⟨ts0, t0⟩ := I2.2.1.1
      have V14 : brI L V2 L (mF V2 2048 1 0) [] := ⟨⟨mF_at, Nat.zero_le _, t0.2.2.1, fun i hi => absurd hi (Nat.not_lt_zero _)⟩, mAv.F mAv.rf (Or.inr (Or.inl rfl)), mAl.rf⟩
      have m0 : ∀ x, (mF V2 2048 1 0).fI (256 + 8 * e) x = V2.fI (256 + 8 * e) x := fun x => mF_no (Or.inl (by omega))
      have m1 : ∀ x, (mF V2 2048 1 0).fI (256 + 8 * o) x = V2.fI (256 + 8 * o) x := fun x => mF_no (Or.inl (by omega))
      have done : ∀ L2 V3 ts, brI L V2 L2 V3 ts → ((aRp (Q o) (bnd Q o) = 121 ∧ aYs (Q o) (bnd Q o) ts) ∨ (aRp (Q o) (bnd Q o) = 110 ∧ aNo (Q o) (bnd Q o) ts)) → mTo (some (Sum.inr (V3.fI 2048 1), L2, V3) : Option ((String ⊕ Int32) × (Nat → Nat) × mV)) (brP Ln n Q o e) := fun L2 V3 ts hb hy => by
        obtain ⟨I3, l0, l1⟩ := I2.br hb
        exact mTo.ret (Or.inl ⟨ts, by rw [hb.1.1], hb.1.n, hb.1, hy, I3, by show L2 3000 ≤ _; omega, by show L2 3001 = _; rw [l1]; exact hA.2.2⟩)
      rw [h, if_neg (by decide), x4.2.2.2.2.2.1, eo]
      refine mTo.ix rfl (show o < 12 by omega) (by decide) ?_
      rw [nI_clamp (by omega)]
      have dy : aRp (Q e) (bnd Q e) = 121 → aYs dq (Qb dq) (aRw (Q e) (bnd Q e)) := fun r => by rw [ay]; exact x6.2.1 r
      have dn : aRp (Q e) (bnd Q e) = 110 → aNo dq (Qb dq) (aRw (Q e) (bnd Q e)) := fun r => by rw [an]; exact x6.2.2.1 r
      rcases dc.2.2.2.2 with ⟨k1, k0, ok, hrow⟩ | ⟨k3, k1, hrow⟩ | ⟨k4, k0, hrow⟩
      · obtain ⟨⟨s1, s2, m16⟩, hd, _⟩ := m_items ob k0
        have hd4 : ∀ i, i < Qm (Q o) → Qd (Q o) (5 * i) = nI (qmA (Q o) i) ∧ Qd (Q o) (5 * i + 1) = nI (qmB (Q o) i) ∧ qmA (Q o) i < Qs (Q o) ∧ qmB (Q o) i < Qs (Q o) := fun i hi => ⟨(hd i hi).1, (hd i hi).2.1, (hd i hi).2.2.1, (hd i hi).2.2.2.1⟩
        have ee : V2.fI (256 + 8 * e) 0 = 1 := by rw [x4.1, ← ke, k1]; rfl
        have eo0 : V2.fI (256 + 8 * o) 0 = 0 := by rw [z4.1, k0]; rfl
        refine T_iN (a := 1) (by unfold mX4_canBringBack; rw [ee, if_pos rfl, eo0, if_pos rfl]) ?_
        rw [if_neg (by decide)]
        refine mTo.ic rfl (show o < 12 by omega) (by decide) ?_
        unfold mX4_bringBack mX4_bringBack_s
        refine mTo.A (Q := fun p => brI L V2 p.2.1 p.2.2 (if aRp (Q e) (bnd Q e) = 121 then prQ (Q o) (Qs (Q o)) (aRw (Q e) (bnd Q e)) else ndQ (Q o) (aRw (Q e) (bnd Q e)))) (T_iW (a := ()) (b := mF V2 2048 1 0) rfl ?_) (fun _ L3 V3 _ h3 => ?_)
        · rw [m0, ee, if_neg (by decide), m0, x1]
          refine mTo.ite (fun r => ?_) (fun r => ?_)
          · rw [if_pos rfl, m1, z4.2.1, if_pos r]
            refine mTo.lt (mTo.A (T_bringPairs (by omega) (by omega) (by omega) (by omega) (by omega) s2 m16 s2 z5 hd4 x3 V14) (fun _ L3 V3 _ h3 => mTo.ret h3))
          · rw [if_neg r]
            have r110 := x6.1.resolve_left r
            exact mTo.A (T_bringNodes (by omega) (by omega) (by omega) (by omega) (by omega) s2 m16 z5 hd4 x3 ((hrow _).2 (dn r110)).2 ok.1 V14) (fun _ L3 V3 _ h3 => mTo.ret h3)
        · have h3 : brI L V2 L3 V3 (if aRp (Q e) (bnd Q e) = 121 then prQ (Q o) (Qs (Q o)) (aRw (Q e) (bnd Q e)) else ndQ (Q o) (aRw (Q e) (bnd Q e))) := h3
          refine done L3 V3 _ h3 ?_
          rw [← rpE]
          rcases x6.1 with r | r
          · rw [if_pos r]
            exact Or.inl ⟨r, (hrow _).1 (dy r)⟩
          · rw [if_neg (by rw [r]; decide)]
            exact Or.inr ⟨r, ((hrow _).2 (dn r)).1⟩
      · have ee : V2.fI (256 + 8 * e) 0 = 3 := by rw [x4.1, ← ke, k3]; rfl
        have eo0 : V2.fI (256 + 8 * o) 0 = 1 := by rw [z4.1, k1]; rfl
        have nf : ¬ FLq Q o e := fun c => by have := c.1; omega
        by_cases r : aRp (Q e) (bnd Q e) = 121
        · by_cases r1 : (aRw (Q e) (bnd Q e)).getD 0 0 = 1
          · refine T_iN (a := 1) (by
              unfold mX4_canBringBack
              rw [ee, if_neg (by decide), if_pos rfl, eo0, if_pos rfl, x1, if_pos r]
              have := T_rAt (F := F) x3 (show 0 < 2 ^ 30 by decide)
              rw [show (0 : Int32) = nI 0 from rfl, this]
              exact if_pos r1) ?_
            rw [if_neg (by decide)]
            refine mTo.ic rfl (show o < 12 by omega) (by decide) ?_
            unfold mX4_bringBack mX4_bringBack_s
            refine mTo.A (Q := fun p => brI L V2 p.2.1 p.2.2 ((aRw (Q e) (bnd Q e)).drop 1)) (T_iW (a := ()) (b := mF V2 2048 1 0) rfl ?_) (fun _ L3 V3 _ h3 => ?_)
            · rw [m0, ee, if_pos rfl]
              exact T_bringTail (by omega) rfl (by omega) (by omega) x3 V14
            · have h3 : brI L V2 L3 V3 ((aRw (Q e) (bnd Q e)).drop 1) := h3
              refine done L3 V3 _ h3 (Or.inl ⟨by rw [← rpE]; exact r, hrow _ (dy r) r1⟩)
          · refine T_iN (a := 0) (by
              unfold mX4_canBringBack
              rw [ee, if_neg (by decide), if_pos rfl, eo0, if_pos rfl, x1, if_pos r]
              have := T_rAt (F := F) x3 (show 0 < 2 ^ 30 by decide)
              rw [show (0 : Int32) = nI 0 from rfl, this]
              exact if_neg r1) ?_
            rw [if_pos rfl]
            exact thr V2 I2 nf
        · refine T_iN (a := 0) (by
            unfold mX4_canBringBack
            rw [ee, if_neg (by decide), if_pos rfl, eo0, if_pos rfl, x1, if_neg r]) ?_
          rw [if_pos rfl]
          exact thr V2 I2 nf
      · obtain ⟨⟨s1, s2, m16⟩, hd, _⟩ := m_items ob k0
        have hd4 : ∀ i, i < Qm (Q o) → Qd (Q o) (5 * i) = nI (qmA (Q o) i) ∧ Qd (Q o) (5 * i + 1) = nI (qmB (Q o) i) ∧ qmA (Q o) i < Qs (Q o) ∧ qmB (Q o) i < Qs (Q o) := fun i hi => ⟨(hd i hi).1, (hd i hi).2.1, (hd i hi).2.2.1, (hd i hi).2.2.2.1⟩
        have ee : V2.fI (256 + 8 * e) 0 = 4 := by rw [x4.1, ← ke, k4]; rfl
        have eo0 : V2.fI (256 + 8 * o) 0 = 0 := by rw [z4.1, k0]; rfl
        have nf : ¬ FLq Q o e := fun c => by have := c.2.1; omega
        by_cases r : aRp (Q e) (bnd Q e) = 121
        · refine T_iN (a := 1) (by
            unfold mX4_canBringBack
            rw [ee, if_neg (by decide), if_neg (by decide), if_pos rfl, eo0, if_pos rfl, x1, if_pos r]) ?_
          rw [if_neg (by decide)]
          refine mTo.ic rfl (show o < 12 by omega) (by decide) ?_
          unfold mX4_bringBack mX4_bringBack_s
          refine mTo.A (Q := fun p => brI L V2 p.2.1 p.2.2 (prQ (Q o) 0 (aRw (Q e) (bnd Q e)))) (T_iW (a := ()) (b := mF V2 2048 1 0) rfl ?_) (fun _ L3 V3 _ h3 => ?_)
          · rw [m0, ee, if_neg (by decide), m0, x1, if_pos r, if_neg (by decide)]
            exact mTo.A (T_bringPairs (a := 0) (by omega) (by omega) (by omega) (by omega) (by omega) s2 m16 (Nat.zero_le _) z5 hd4 x3 V14) (fun _ L3 V3 _ h3 => mTo.ret h3)
          · have h3 : brI L V2 L3 V3 (prQ (Q o) 0 (aRw (Q e) (bnd Q e))) := h3
            refine done L3 V3 _ h3 (Or.inl ⟨by rw [← rpE]; exact r, hrow _ (dy r)⟩)
        · refine T_iN (a := 0) (by
            unfold mX4_canBringBack
            rw [ee, if_neg (by decide), if_neg (by decide), if_pos rfl, eo0, if_pos rfl, x1, if_neg r]) ?_
          rw [if_pos rfl]
          exact thr V2 I2 nf
  unfold mX11_bring mX11_bring_s
  refine T_rfB hF hI.1 he (fun L V1 r i f g => ?_)
  have lk : lkP Ln V n Q L V1 := ⟨r, i, g⟩
  have A1 := lkP.at hI lk
  rw [(i.1.2.2.1 e he).1.2.2.2.2.2.1, eo, if_neg (nI_nn (by omega))]
  refine T_rfB hF A1.1.1 on (fun L2 V2 r2 i2 f2 g2 => ?_)
  have lk2 : lkP L V1 n Q L2 V2 := ⟨r2, i2, g2⟩
  exact b0 F L2 V2 (by omega) (A1.tr (lkP.at A1.1 lk2) (Nat.le_refl _)) (g2 e he f) f2
theorem T_bring {G : wkG} {F n e o : Nat} {Q : Nat → qT} {Ln : Nat → Nat} {V : mV} (hF : 2 ^ 34 ≤ F) (hI : bST Ln V n Q) (he : e < n) (on : o < n) (eo : Qo (Q e) = nI o) (hT : Ln 3000 < 5000) : mTo (mL_bring G F Ln (nI e) V) (fun p => ((∃ ts : List Int32, p.1 = Int32.toInt64 (nI ts.length) ∧ ts.length ≤ 1024 ∧ rowIs p.2.1 p.2.2 2048 ts ∧ ((aRp (Q o) (bnd Q o) = 121 ∧ aYs (Q o) (bnd Q o) ts) ∨ (aRp (Q o) (bnd Q o) = 110 ∧ aNo (Q o) (bnd Q o) ts))) ∨ (p.1 = -4000000000000000002 ∧ ¬ FLq Q o e)) ∧ bAt Ln 1 n Q p.2.1 p.2.2) := by
  unfold mL_bring
  refine mTo.B (T_bringI hF hI he on eo hT) (fun v L V1 _ h => ?_) (fun y L V1 _ h => ?_)
  · rcases h with ⟨ts, h1, h2, h3, h4, h5⟩ | ⟨h1, _⟩
    · have h1 := Sum.inr.inj h1
      exact mTo.ret ⟨Or.inl ⟨ts, by rw [h1], h2, h3, h4⟩, h5⟩
    · cases h1
  · rcases h with ⟨ts, h1, _⟩ | ⟨h1, h2, h3⟩
    · cases h1
    · cases h1
      rw [if_neg (by decide), if_pos rfl]
      exact mTo.ret ⟨Or.inr ⟨rfl, h2⟩, h3⟩
end
