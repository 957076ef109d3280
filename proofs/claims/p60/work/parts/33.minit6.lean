/-! A NEW BOOK: its constructor. -/
section
theorem mLn0_dy {d : Nat} (h : mDy d) : mLn0 d = cLen d := by
  have h3 : d ≠ 3000 := fun z => mDy_3000 (z ▸ h)
  have h4 : d ≠ 3001 := fun z => mDy_3001 (z ▸ h)
  unfold mLn0 cLen
  rw [if_neg h3, if_neg h4, if_pos h.2]
theorem pRel {D C : Nat → Prop} {α : Nat → Nat} {S0 S : wPS} (P : pR D C α S0 S) (hC : ∀ i, cDom i → C i) : mRel α S mLn0 mV0 ∧ ∀ d, mDy d → mq α S d = α d := by
  have hc : ∀ i, mK i ≠ 99 → cK i = mK i := fun i h => by
    unfold cK
    rw [if_neg h]
  have ok : ∀ i, cDom i → cOk α S i := fun i h => (P.2.2.2.2 i (hC i h)).2.1
  have dd : ∀ i, cDom i → D i := fun i h => (P.2.2.2.2 i (hC i h)).1
  have rf : ∀ d, mDy d → S.fA (α (mOw d)) (mOf d) = some (α d) := fun d hd => by
    refine (ok (mOw d) (Or.inl (mOw_live hd))).2.2.1 _ _ ?_
    rcases hd.1 with z | z
    · subst z
      rfl
    · have e := mOw_row z.2
      rw [show d - 1 + 1 = d by omega] at e
      rw [e.1, e.2]
      unfold cRef
      rw [if_pos z.2, if_pos rfl, show d - 1 + 1 = d by omega]
  have mqe : ∀ d, mDy d → mq α S d = α d := fun d hd => by
    unfold mq
    rw [rf d hd]
    rfl
  have nolive : ∀ i j t, mR i j = some t → mK i ≠ 99 := fun i j t ht z => by
    have : ∀ i, i < 9 → mK i ≠ 99 := by decide
    unfold mR at ht
    by_cases c : i < 9
    · exact this i c z
    · rw [if_neg c, if_neg (by omega), if_neg (by omega)] at ht
      cases ht
  have nol : ∀ i k t, mRA i k = some t → mK i ≠ 99 := fun i k t ht z => by
    rw [mRA_99 (Or.inl z)] at ht
    cases ht
  refine ⟨⟨fun i hi => ?_, fun i j hi hj e => P.2.2.1 i j (dd i (Or.inl hi)) (dd j (Or.inl hj)) e, fun i hi => (ok i (Or.inl (by omega))).1 hi, fun i hi hj => ?_, fun i j t ht => ?_, fun i k t ht => ?_, fun k hk => ?_, fun d hd => ?_, fun d d' hd hd' e => ?_⟩, mqe⟩
  · obtain ⟨a, _, b⟩ := P.2.1 i (dd i (Or.inl hi))
    exact ⟨a, by rw [b, hc i hi]⟩
  · have := (ok i (Or.inl hj)).2.1 (by rw [hc i hj]; exact hi)
    rw [hc i hj] at this
    refine ⟨?_, this.2.1, this.2.2⟩
    rw [this.1]
    unfold cLen
    rw [if_neg hj]
  · refine (ok i (Or.inl (nolive i j t ht))).2.2.1 j t ?_
    unfold cRef
    by_cases c : mK i = 9
    · rw [mR9 c] at ht
      cases ht
    · rw [if_neg c]
      by_cases c2 : i = 0 ∧ j = 16
      · rw [c2.1, c2.2] at ht
        cases ht
      · rw [if_neg c2]
        exact ht
  · refine (ok i (Or.inl (nol i k t ht))).2.2.2 k t ?_
    unfold cRA
    by_cases c : i = 17
    · subst c
      cases ht
    · rw [if_neg c]
      exact ht
  · refine ⟨(ok 17 (Or.inl (by decide))).2.2.2 k _ ?_, (by show mK (1024 + 4 * k) = 0; exact mK_c (by omega))⟩
    show (if k < 16 then some (1024 + 4 * k) else none) = _
    rw [if_pos hk]
    rfl
  · rw [mqe d hd]
    have ck : cK d = 13 := by
      unfold cK
      rw [if_pos hd.2]
    have := (ok d (Or.inr hd)).2.1 (by rw [ck]; decide)
    obtain ⟨a, _, b⟩ := P.2.1 d (dd d (Or.inr hd))
    refine ⟨rf d hd, ⟨a, by rw [b, ck]⟩, by rw [this.1, mLn0_dy hd], this.2.1 (by rw [ck]; decide), fun i hi e => ?_⟩
    have := P.2.2.1 _ _ (dd d (Or.inr hd)) (dd i (Or.inl hi)) e
    subst this
    exact hi hd.2
  · rw [mqe d hd, mqe d' hd'] at e
    exact P.2.2.1 _ _ (dd d (Or.inr hd)) (dd d' (Or.inr hd')) e
set_option maxHeartbeats 8000000 in
theorem LX11_init {S0 : wPS} {q F k0 n0 : Nat} {Φ : Unit → wPS → Prop} (hF : 60 ≤ F) (hq : ¬ q ∈ S0.L) (hk : 2000 ≤ k0) (hm : 20000 ≤ n0) (k : ∀ β S', β 0 = q → mRel β S' mLn0 mV0 → mSame S0 S' → (∀ i, mK i ≠ 99 → ¬ β i ∈ S0.L) → (∀ d, mDy d → ¬ mq β S' d ∈ S0.L) → (wkWF S0 → wkWF S') → Φ () S') : rX11_init F k0 n0 q (wnO S0 q 11) Φ := by
  show wkLt (wnO S0 q 11) fun S1 => rX11_init F k0 n0 q S1 Φ
  refine pNO (D := fun _ => False) (C := fun _ => False) (α := fun _ => 0) (S0 := S0) (t := 0) ⟨mSame.rf, fun _ h => h.elim, fun _ _ h => h.elim, fun a h => Or.inl h, fun _ h => h.elim⟩ (fun h => h) (by decide) hq (fun α S P H eA W => ?_)
  have hi : (fun x => False ∨ x = 0) 0 := Or.inr rfl
  have hn : ¬ (fun _ : Nat => False) 0 := fun h => h
  have hD : ∀ x, 1 ≤ x → ¬ (fun x => False ∨ x = 0) x := fun x hx z => z.elim (fun h => h) (fun h => by omega)
  have hC : ∀ x, 1 ≤ x → ¬ (fun _ : Nat => False) x := fun _ _ h => h
  have G0 : pS (fun x => False ∨ x = 0) (fun x => x = 0) α S α S := pS.rf
  generalize hA : q = A at eA
  unfold rX11_init rX11_init_s
  simp only [show ((5 : Int32)).toNatClampNeg = 5 from by decide, show ((6 : Int32)).toNatClampNeg = 6 from by decide, show ((12 : Int32)).toNatClampNeg = 12 from by decide, show ((16 : Int32)).toNatClampNeg = 16 from by decide, show ((24 : Int32)).toNatClampNeg = 24 from by decide, show ((256 : Int32)).toNatClampNeg = 256 from by decide]
  refine ⟨by omega, by omega, fun q38 hq38 => ?_⟩
  refine pNO (t := 1) P (hD (1) (by omega)) (by decide) hq38 (fun α1 S1 P1 H1 e1 W1 => ?_)
  have V1 := H1.rawP P1 W (hi) (fun z => z) (fun _ => Or.inl)
  have G1 := pS.tr G0 H1 (fun _ z => z) (fun _ z _ => z) (fun _ z _ => z.elim)
  have a1 : α1 0 = A := (H1 _ (hi)).1.trans eA
  refine ⟨80, 4099, by omega, by omega, ?_⟩
  refine init_X4 P1 ((Or.inr rfl)) (hC (1) (by omega)) e1 W1 (fun x hx => (pno (hD x (by omega)) (by omega))) (by decide) (by decide) (fun α2 S2 P2 H2 => ?_)
  have V2 := H2.rawP P2 V1 ((Or.inl hi)) (by omega) (fun _ => Or.inl)
  have G2 := pS.tr G1 H2 (fun _ z => (Or.inl z)) (fun _ z _ => z) (fun x z h => absurd (z ▸ h) (hD (1) (by omega)))
  have a2 : α2 0 = A := (H2 _ ((Or.inl hi))).1.trans a1
  have b2_q38 : α2 (1) = q38 := (H2 _ ((Or.inr rfl))).1.trans e1
  refine pSetA (t := 1) P2 ((Or.inl (Or.inl hi))) (pno hn (by omega)) a2 V2 ((Or.inl (Or.inr rfl))) b2_q38 (fun S3 P3 H3 W3 => ?_)
  have G3 := pS.tr G2 H3 (fun _ z => (Or.inl (Or.inl z))) (fun _ z _ => z) (fun _ z _ => z)
  refine ⟨by decide, by omega, by omega, by decide, fun q46 hq46 => ?_⟩
  refine pNA (t := 10) P3 (pno (pno (hD (10) (by omega)) (by omega)) (by omega)) (by decide) hq46 (fun α4 S4 P4 H4 e4 W4 => ?_)
  have V4 := H4.rawP P4 W3 ((Or.inl (Or.inl hi))) (fun z => z) (fun _ => Or.inl)
  have G4 := pS.tr G3 H4 (fun _ z => (Or.inl (Or.inl z))) (fun _ z _ => z) (fun _ z _ => z.elim)
  have a4 : α4 0 = A := (H4 _ ((Or.inl (Or.inl hi)))).1.trans a2
  refine pSetA (t := 10) P4 ((Or.inl (Or.inl (Or.inl hi)))) (pno hn (by omega)) a4 V4 ((Or.inr rfl)) e4 (fun S5 P5 H5 W5 => ?_)
  have Y5_10 := H5.rowP P5 W4 ((Or.inr rfl)) (by omega) (fun _ z => z)
  have G5 := pS.tr G4 H5 (fun _ z => (Or.inl (Or.inl (Or.inl z)))) (fun _ z _ => z) (fun _ z _ => z)
  refine ⟨by decide, by omega, by omega, by decide, fun q50 hq50 => ?_⟩
  refine pNI (t := 11) P5 (pno (pno (pno (hD (11) (by omega)) (by omega)) (by omega)) (by omega)) (by decide) ⟨by decide, by decide⟩ (by decide) (by decide) (fun j => c_none 11 j (by decide)) (fun _ => rfl) hq50 (fun α6 S6 P6 H6 e6 => ?_)
  have V6 := H6.rawP P6 W5 ((Or.inl (Or.inl (Or.inl hi)))) (fun z => z) (fun _ => Or.inl)
  have Y6_10 := H6.rowP P6 Y5_10 ((Or.inr rfl)) (fun z => z) (fun _ => Or.inl)
  have G6 := pS.tr G5 H6 (fun _ z => (Or.inl (Or.inl (Or.inl z)))) (fun _ z _ => z) (fun _ z _ => z.elim)
  have a6 : α6 0 = A := (H6 _ ((Or.inl (Or.inl (Or.inl hi))))).1.trans a4
  refine pSetA (t := 11) P6 ((Or.inl (Or.inl (Or.inl (Or.inl hi))))) (pno (pno hn (by omega)) (by omega)) a6 V6 ((Or.inr rfl)) e6 (fun S7 P7 H7 W7 => ?_)
  have Y7_10 := H7.rowP P7 Y6_10 ((Or.inl (Or.inr rfl))) (by omega) (fun _ z => z)
  have G7 := pS.tr G6 H7 (fun _ z => (Or.inl (Or.inl (Or.inl (Or.inl z))))) (fun _ z _ => z) (fun _ z _ => z)
  refine ⟨by decide, by omega, by omega, by decide, fun q54 hq54 => ?_⟩
  refine pNI (t := 12) P7 (pno (pno (pno (pno (hD (12) (by omega)) (by omega)) (by omega)) (by omega)) (by omega)) (by decide) ⟨by decide, by decide⟩ (by decide) (by decide) (fun j => c_none 12 j (by decide)) (fun _ => rfl) hq54 (fun α8 S8 P8 H8 e8 => ?_)
  have V8 := H8.rawP P8 W7 ((Or.inl (Or.inl (Or.inl (Or.inl hi))))) (fun z => z) (fun _ => Or.inl)
  have Y8_10 := H8.rowP P8 Y7_10 ((Or.inl (Or.inr rfl))) (fun z => z) (fun _ => Or.inl)
  have G8 := pS.tr G7 H8 (fun _ z => (Or.inl (Or.inl (Or.inl (Or.inl z))))) (fun _ z _ => z) (fun _ z _ => z.elim)
  have a8 : α8 0 = A := (H8 _ ((Or.inl (Or.inl (Or.inl (Or.inl hi)))))).1.trans a6
  refine pSetA (t := 12) P8 ((Or.inl (Or.inl (Or.inl (Or.inl (Or.inl hi)))))) (pno (pno (pno hn (by omega)) (by omega)) (by omega)) a8 V8 ((Or.inr rfl)) e8 (fun S9 P9 H9 W9 => ?_)
  have Y9_10 := H9.rowP P9 Y8_10 ((Or.inl (Or.inl (Or.inr rfl)))) (by omega) (fun _ z => z)
  have G9 := pS.tr G8 H9 (fun _ z => (Or.inl (Or.inl (Or.inl (Or.inl (Or.inl z)))))) (fun _ z _ => z) (fun _ z _ => z)
  refine ⟨by omega, by omega, fun q58 hq58 => ?_⟩
  refine pNO (t := 544) P9 (pno (pno (pno (pno (pno (hD (544) (by omega)) (by omega)) (by omega)) (by omega)) (by omega)) (by omega)) (by decide) hq58 (fun α10 S10 P10 H10 e10 W10 => ?_)
  have V10 := H10.rawP P10 W9 ((Or.inl (Or.inl (Or.inl (Or.inl (Or.inl hi)))))) (fun z => z) (fun _ => Or.inl)
  have Y10_10 := H10.rowP P10 Y9_10 ((Or.inl (Or.inl (Or.inr rfl)))) (fun z => z) (fun _ => Or.inl)
  have G10 := pS.tr G9 H10 (fun _ z => (Or.inl (Or.inl (Or.inl (Or.inl (Or.inl z)))))) (fun _ z _ => z) (fun _ z _ => z.elim)
  have a10 : α10 0 = A := (H10 _ ((Or.inl (Or.inl (Or.inl (Or.inl (Or.inl hi))))))).1.trans a8
  refine ⟨5, 172, by omega, by omega, ?_⟩
  refine init_X3 (e := 544) rfl P10 ((Or.inr rfl)) (pno (pno (pno (hC (544) (by omega)) (by omega)) (by omega)) (by omega)) e10 W10 (fun x hx => (pno (pno (pno (pno (pno (pno (hD x (by omega)) (by omega)) (by omega)) (by omega)) (by omega)) (by omega)) (by omega))) (by decide) (by decide) (fun α11 S11 P11 H11 => ?_)
  have V11 := H11.rawP P11 V10 ((Or.inl (Or.inl (Or.inl (Or.inl (Or.inl (Or.inl hi))))))) (by omega) (fun _ => Or.inl)
  have Y11_10 := H11.rowP P11 Y10_10 ((Or.inl (Or.inl (Or.inl (Or.inr rfl))))) (by omega) (fun _ => Or.inl)
  have G11 := pS.tr G10 H11 (fun _ z => (Or.inl (Or.inl (Or.inl (Or.inl (Or.inl (Or.inl z))))))) (fun _ z _ => z) (fun x z h => absurd (z ▸ h) (hD (544) (by omega)))
  have a11 : α11 0 = A := (H11 _ ((Or.inl (Or.inl (Or.inl (Or.inl (Or.inl (Or.inl hi)))))))).1.trans a10
  have b11_q58 : α11 (544) = q58 := (H11 _ ((Or.inr rfl))).1.trans e10
  refine pSetA (t := 544) P11 ((Or.inl (Or.inl (Or.inl (Or.inl (Or.inl (Or.inl (Or.inl hi)))))))) (pno (pno (pno (pno hn (by omega)) (by omega)) (by omega)) (by omega)) a11 V11 ((Or.inl (Or.inr rfl))) b11_q58 (fun S12 P12 H12 W12 => ?_)
  have Y12_10 := H12.rowP P12 Y11_10 ((Or.inl (Or.inl (Or.inl (Or.inl (Or.inr rfl)))))) (by omega) (fun _ z => z)
  have G12 := pS.tr G11 H12 (fun _ z => (Or.inl (Or.inl (Or.inl (Or.inl (Or.inl (Or.inl (Or.inl z)))))))) (fun _ z _ => z) (fun _ z _ => z)
  refine ⟨by decide, by omega, by omega, by decide, fun q66 hq66 => ?_⟩
  refine pNA (t := 13) P12 (pno (pno (pno (pno (pno (pno (pno (hD (13) (by omega)) (by omega)) (by omega)) (by omega)) (by omega)) (by omega)) (by omega)) (by omega)) (by decide) hq66 (fun α13 S13 P13 H13 e13 W13 => ?_)
  have V13 := H13.rawP P13 W12 ((Or.inl (Or.inl (Or.inl (Or.inl (Or.inl (Or.inl (Or.inl hi)))))))) (fun z => z) (fun _ => Or.inl)
  have Y13_10 := H13.rowP P13 Y12_10 ((Or.inl (Or.inl (Or.inl (Or.inl (Or.inr rfl)))))) (fun z => z) (fun _ => Or.inl)
  have G13 := pS.tr G12 H13 (fun _ z => (Or.inl (Or.inl (Or.inl (Or.inl (Or.inl (Or.inl (Or.inl z)))))))) (fun _ z _ => z) (fun _ z _ => z.elim)
  have a13 : α13 0 = A := (H13 _ ((Or.inl (Or.inl (Or.inl (Or.inl (Or.inl (Or.inl (Or.inl hi))))))))).1.trans a11
  refine pSetA (t := 13) P13 ((Or.inl (Or.inl (Or.inl (Or.inl (Or.inl (Or.inl (Or.inl (Or.inl hi))))))))) (pno (pno (pno (pno hn (by omega)) (by omega)) (by omega)) (by omega)) a13 V13 ((Or.inr rfl)) e13 (fun S14 P14 H14 W14 => ?_)
  have Y14_10 := H14.rowP P14 Y13_10 ((Or.inl (Or.inl (Or.inl (Or.inl (Or.inl (Or.inr rfl))))))) (by omega) (fun _ z => z)
  have Y14_13 := H14.rowP P14 W13 ((Or.inr rfl)) (by omega) (fun _ z => z)
  have G14 := pS.tr G13 H14 (fun _ z => (Or.inl (Or.inl (Or.inl (Or.inl (Or.inl (Or.inl (Or.inl (Or.inl z))))))))) (fun _ z _ => z) (fun _ z _ => z)
  refine ⟨by decide, by omega, by omega, by decide, fun q70 hq70 => ?_⟩
  refine pNI (t := 14) P14 (pno (pno (pno (pno (pno (pno (pno (pno (hD (14) (by omega)) (by omega)) (by omega)) (by omega)) (by omega)) (by omega)) (by omega)) (by omega)) (by omega)) (by decide) ⟨by decide, by decide⟩ (by decide) (by decide) (fun j => c_none 14 j (by decide)) (fun _ => rfl) hq70 (fun α15 S15 P15 H15 e15 => ?_)
  have V15 := H15.rawP P15 W14 ((Or.inl (Or.inl (Or.inl (Or.inl (Or.inl (Or.inl (Or.inl (Or.inl hi))))))))) (fun z => z) (fun _ => Or.inl)
  have Y15_10 := H15.rowP P15 Y14_10 ((Or.inl (Or.inl (Or.inl (Or.inl (Or.inl (Or.inr rfl))))))) (fun z => z) (fun _ => Or.inl)
  have Y15_13 := H15.rowP P15 Y14_13 ((Or.inr rfl)) (fun z => z) (fun _ => Or.inl)
  have G15 := pS.tr G14 H15 (fun _ z => (Or.inl (Or.inl (Or.inl (Or.inl (Or.inl (Or.inl (Or.inl (Or.inl z))))))))) (fun _ z _ => z) (fun _ z _ => z.elim)
  have a15 : α15 0 = A := (H15 _ ((Or.inl (Or.inl (Or.inl (Or.inl (Or.inl (Or.inl (Or.inl (Or.inl hi)))))))))).1.trans a13
  refine pSetA (t := 14) P15 ((Or.inl (Or.inl (Or.inl (Or.inl (Or.inl (Or.inl (Or.inl (Or.inl (Or.inl hi)))))))))) (pno (pno (pno (pno (pno hn (by omega)) (by omega)) (by omega)) (by omega)) (by omega)) a15 V15 ((Or.inr rfl)) e15 (fun S16 P16 H16 W16 => ?_)
  have Y16_10 := H16.rowP P16 Y15_10 ((Or.inl (Or.inl (Or.inl (Or.inl (Or.inl (Or.inl (Or.inr rfl)))))))) (by omega) (fun _ z => z)
  have Y16_13 := H16.rowP P16 Y15_13 ((Or.inl (Or.inr rfl))) (by omega) (fun _ z => z)
  have G16 := pS.tr G15 H16 (fun _ z => (Or.inl (Or.inl (Or.inl (Or.inl (Or.inl (Or.inl (Or.inl (Or.inl (Or.inl z)))))))))) (fun _ z _ => z) (fun _ z _ => z)
  refine ⟨by decide, by omega, by omega, by decide, fun q74 hq74 => ?_⟩
  refine pNI (t := 15) P16 (pno (pno (pno (pno (pno (pno (pno (pno (pno (hD (15) (by omega)) (by omega)) (by omega)) (by omega)) (by omega)) (by omega)) (by omega)) (by omega)) (by omega)) (by omega)) (by decide) ⟨by decide, by decide⟩ (by decide) (by decide) (fun j => c_none 15 j (by decide)) (fun _ => rfl) hq74 (fun α17 S17 P17 H17 e17 => ?_)
  have V17 := H17.rawP P17 W16 ((Or.inl (Or.inl (Or.inl (Or.inl (Or.inl (Or.inl (Or.inl (Or.inl (Or.inl hi)))))))))) (fun z => z) (fun _ => Or.inl)
  have Y17_10 := H17.rowP P17 Y16_10 ((Or.inl (Or.inl (Or.inl (Or.inl (Or.inl (Or.inl (Or.inr rfl)))))))) (fun z => z) (fun _ => Or.inl)
  have Y17_13 := H17.rowP P17 Y16_13 ((Or.inl (Or.inr rfl))) (fun z => z) (fun _ => Or.inl)
  have G17 := pS.tr G16 H17 (fun _ z => (Or.inl (Or.inl (Or.inl (Or.inl (Or.inl (Or.inl (Or.inl (Or.inl (Or.inl z)))))))))) (fun _ z _ => z) (fun _ z _ => z.elim)
  have a17 : α17 0 = A := (H17 _ ((Or.inl (Or.inl (Or.inl (Or.inl (Or.inl (Or.inl (Or.inl (Or.inl (Or.inl hi))))))))))).1.trans a15
  refine pSetA (t := 15) P17 ((Or.inl (Or.inl (Or.inl (Or.inl (Or.inl (Or.inl (Or.inl (Or.inl (Or.inl (Or.inl hi))))))))))) (pno (pno (pno (pno (pno (pno hn (by omega)) (by omega)) (by omega)) (by omega)) (by omega)) (by omega)) a17 V17 ((Or.inr rfl)) e17 (fun S18 P18 H18 W18 => ?_)
  have Y18_10 := H18.rowP P18 Y17_10 ((Or.inl (Or.inl (Or.inl (Or.inl (Or.inl (Or.inl (Or.inl (Or.inr rfl))))))))) (by omega) (fun _ z => z)
  have Y18_13 := H18.rowP P18 Y17_13 ((Or.inl (Or.inl (Or.inr rfl)))) (by omega) (fun _ z => z)
  have G18 := pS.tr G17 H18 (fun _ z => (Or.inl (Or.inl (Or.inl (Or.inl (Or.inl (Or.inl (Or.inl (Or.inl (Or.inl (Or.inl z))))))))))) (fun _ z _ => z) (fun _ z _ => z)
  refine ⟨by omega, by omega, fun q78 hq78 => ?_⟩
  refine pNO (t := 2048) P18 (pno (pno (pno (pno (pno (pno (pno (pno (pno (pno (hD (2048) (by omega)) (by omega)) (by omega)) (by omega)) (by omega)) (by omega)) (by omega)) (by omega)) (by omega)) (by omega)) (by omega)) (by decide) hq78 (fun α19 S19 P19 H19 e19 W19 => ?_)
  have V19 := H19.rawP P19 W18 ((Or.inl (Or.inl (Or.inl (Or.inl (Or.inl (Or.inl (Or.inl (Or.inl (Or.inl (Or.inl hi))))))))))) (fun z => z) (fun _ => Or.inl)
  have Y19_10 := H19.rowP P19 Y18_10 ((Or.inl (Or.inl (Or.inl (Or.inl (Or.inl (Or.inl (Or.inl (Or.inr rfl))))))))) (fun z => z) (fun _ => Or.inl)
  have Y19_13 := H19.rowP P19 Y18_13 ((Or.inl (Or.inl (Or.inr rfl)))) (fun z => z) (fun _ => Or.inl)
  have G19 := pS.tr G18 H19 (fun _ z => (Or.inl (Or.inl (Or.inl (Or.inl (Or.inl (Or.inl (Or.inl (Or.inl (Or.inl (Or.inl z))))))))))) (fun _ z _ => z) (fun _ z _ => z.elim)
  have a19 : α19 0 = A := (H19 _ ((Or.inl (Or.inl (Or.inl (Or.inl (Or.inl (Or.inl (Or.inl (Or.inl (Or.inl (Or.inl hi)))))))))))).1.trans a17
  refine ⟨1, 16, by omega, by omega, ?_⟩
  refine init_X9 (r := 2048) rfl P19 ((Or.inr rfl)) (pno (pno (pno (pno (pno (pno (hC (2048) (by omega)) (by omega)) (by omega)) (by omega)) (by omega)) (by omega)) (by omega)) e19 W19 (fun x hx => (pno (pno (pno (pno (pno (pno (pno (pno (pno (pno (pno (hD x (by omega)) (by omega)) (by omega)) (by omega)) (by omega)) (by omega)) (by omega)) (by omega)) (by omega)) (by omega)) (by omega)) (by omega))) (by decide) (by decide) (fun α20 S20 P20 H20 => ?_)
  have V20 := H20.rawP P20 V19 ((Or.inl (Or.inl (Or.inl (Or.inl (Or.inl (Or.inl (Or.inl (Or.inl (Or.inl (Or.inl (Or.inl hi)))))))))))) (by omega) (fun _ => Or.inl)
  have Y20_10 := H20.rowP P20 Y19_10 ((Or.inl (Or.inl (Or.inl (Or.inl (Or.inl (Or.inl (Or.inl (Or.inl (Or.inr rfl)))))))))) (by omega) (fun _ => Or.inl)
  have Y20_13 := H20.rowP P20 Y19_13 ((Or.inl (Or.inl (Or.inl (Or.inr rfl))))) (by omega) (fun _ => Or.inl)
  have G20 := pS.tr G19 H20 (fun _ z => (Or.inl (Or.inl (Or.inl (Or.inl (Or.inl (Or.inl (Or.inl (Or.inl (Or.inl (Or.inl (Or.inl z)))))))))))) (fun _ z _ => z) (fun x z h => absurd (z ▸ h) (hD (2048) (by omega)))
  have a20 : α20 0 = A := (H20 _ ((Or.inl (Or.inl (Or.inl (Or.inl (Or.inl (Or.inl (Or.inl (Or.inl (Or.inl (Or.inl (Or.inl hi))))))))))))).1.trans a19
  have b20_q78 : α20 (2048) = q78 := (H20 _ ((Or.inr rfl))).1.trans e19
  refine pSetA (t := 2048) P20 ((Or.inl (Or.inl (Or.inl (Or.inl (Or.inl (Or.inl (Or.inl (Or.inl (Or.inl (Or.inl (Or.inl (Or.inl hi))))))))))))) (pno (pno (pno (pno (pno (pno (pno hn (by omega)) (by omega)) (by omega)) (by omega)) (by omega)) (by omega)) (by omega)) a20 V20 ((Or.inl (Or.inr rfl))) b20_q78 (fun S21 P21 H21 W21 => ?_)
  have Y21_10 := H21.rowP P21 Y20_10 ((Or.inl (Or.inl (Or.inl (Or.inl (Or.inl (Or.inl (Or.inl (Or.inl (Or.inl (Or.inr rfl))))))))))) (by omega) (fun _ z => z)
  have Y21_13 := H21.rowP P21 Y20_13 ((Or.inl (Or.inl (Or.inl (Or.inl (Or.inr rfl)))))) (by omega) (fun _ z => z)
  have G21 := pS.tr G20 H21 (fun _ z => (Or.inl (Or.inl (Or.inl (Or.inl (Or.inl (Or.inl (Or.inl (Or.inl (Or.inl (Or.inl (Or.inl (Or.inl z))))))))))))) (fun _ z _ => z) (fun _ z _ => z)
  refine ⟨by decide, by omega, by omega, by decide, fun q86 hq86 => ?_⟩
  refine pNI (t := 16) P21 (pno (pno (pno (pno (pno (pno (pno (pno (pno (pno (pno (pno (hD (16) (by omega)) (by omega)) (by omega)) (by omega)) (by omega)) (by omega)) (by omega)) (by omega)) (by omega)) (by omega)) (by omega)) (by omega)) (by omega)) (by decide) ⟨by decide, by decide⟩ (by decide) (by decide) (fun j => c_none 16 j (by decide)) (fun _ => rfl) hq86 (fun α22 S22 P22 H22 e22 => ?_)
  have V22 := H22.rawP P22 W21 ((Or.inl (Or.inl (Or.inl (Or.inl (Or.inl (Or.inl (Or.inl (Or.inl (Or.inl (Or.inl (Or.inl (Or.inl hi))))))))))))) (fun z => z) (fun _ => Or.inl)
  have Y22_10 := H22.rowP P22 Y21_10 ((Or.inl (Or.inl (Or.inl (Or.inl (Or.inl (Or.inl (Or.inl (Or.inl (Or.inl (Or.inr rfl))))))))))) (fun z => z) (fun _ => Or.inl)
  have Y22_13 := H22.rowP P22 Y21_13 ((Or.inl (Or.inl (Or.inl (Or.inl (Or.inr rfl)))))) (fun z => z) (fun _ => Or.inl)
  have G22 := pS.tr G21 H22 (fun _ z => (Or.inl (Or.inl (Or.inl (Or.inl (Or.inl (Or.inl (Or.inl (Or.inl (Or.inl (Or.inl (Or.inl (Or.inl z))))))))))))) (fun _ z _ => z) (fun _ z _ => z.elim)
  have a22 : α22 0 = A := (H22 _ ((Or.inl (Or.inl (Or.inl (Or.inl (Or.inl (Or.inl (Or.inl (Or.inl (Or.inl (Or.inl (Or.inl (Or.inl hi)))))))))))))).1.trans a20
  refine pSetA (t := 16) P22 ((Or.inl (Or.inl (Or.inl (Or.inl (Or.inl (Or.inl (Or.inl (Or.inl (Or.inl (Or.inl (Or.inl (Or.inl (Or.inl hi)))))))))))))) (pno (pno (pno (pno (pno (pno (pno (pno hn (by omega)) (by omega)) (by omega)) (by omega)) (by omega)) (by omega)) (by omega)) (by omega)) a22 V22 ((Or.inr rfl)) e22 (fun S23 P23 H23 W23 => ?_)
  have Y23_10 := H23.rowP P23 Y22_10 ((Or.inl (Or.inl (Or.inl (Or.inl (Or.inl (Or.inl (Or.inl (Or.inl (Or.inl (Or.inl (Or.inr rfl)))))))))))) (by omega) (fun _ z => z)
  have Y23_13 := H23.rowP P23 Y22_13 ((Or.inl (Or.inl (Or.inl (Or.inl (Or.inl (Or.inr rfl))))))) (by omega) (fun _ z => z)
  have G23 := pS.tr G22 H23 (fun _ z => (Or.inl (Or.inl (Or.inl (Or.inl (Or.inl (Or.inl (Or.inl (Or.inl (Or.inl (Or.inl (Or.inl (Or.inl (Or.inl z)))))))))))))) (fun _ z _ => z) (fun _ z _ => z)
  refine ⟨by decide, by omega, by omega, by decide, fun q90 hq90 => ?_⟩
  refine pNA (t := 17) P23 (pno (pno (pno (pno (pno (pno (pno (pno (pno (pno (pno (pno (pno (hD (17) (by omega)) (by omega)) (by omega)) (by omega)) (by omega)) (by omega)) (by omega)) (by omega)) (by omega)) (by omega)) (by omega)) (by omega)) (by omega)) (by omega)) (by decide) hq90 (fun α24 S24 P24 H24 e24 W24 => ?_)
  have V24 := H24.rawP P24 W23 ((Or.inl (Or.inl (Or.inl (Or.inl (Or.inl (Or.inl (Or.inl (Or.inl (Or.inl (Or.inl (Or.inl (Or.inl (Or.inl hi)))))))))))))) (fun z => z) (fun _ => Or.inl)
  have Y24_10 := H24.rowP P24 Y23_10 ((Or.inl (Or.inl (Or.inl (Or.inl (Or.inl (Or.inl (Or.inl (Or.inl (Or.inl (Or.inl (Or.inr rfl)))))))))))) (fun z => z) (fun _ => Or.inl)
  have Y24_13 := H24.rowP P24 Y23_13 ((Or.inl (Or.inl (Or.inl (Or.inl (Or.inl (Or.inr rfl))))))) (fun z => z) (fun _ => Or.inl)
  have G24 := pS.tr G23 H24 (fun _ z => (Or.inl (Or.inl (Or.inl (Or.inl (Or.inl (Or.inl (Or.inl (Or.inl (Or.inl (Or.inl (Or.inl (Or.inl (Or.inl z)))))))))))))) (fun _ z _ => z) (fun _ z _ => z.elim)
  have a24 : α24 0 = A := (H24 _ ((Or.inl (Or.inl (Or.inl (Or.inl (Or.inl (Or.inl (Or.inl (Or.inl (Or.inl (Or.inl (Or.inl (Or.inl (Or.inl hi))))))))))))))).1.trans a22
  refine pSetA (t := 17) P24 ((Or.inl (Or.inl (Or.inl (Or.inl (Or.inl (Or.inl (Or.inl (Or.inl (Or.inl (Or.inl (Or.inl (Or.inl (Or.inl (Or.inl hi))))))))))))))) (pno (pno (pno (pno (pno (pno (pno (pno hn (by omega)) (by omega)) (by omega)) (by omega)) (by omega)) (by omega)) (by omega)) (by omega)) a24 V24 ((Or.inr rfl)) e24 (fun S25 P25 H25 W25 => ?_)
  have Y25_10 := H25.rowP P25 Y24_10 ((Or.inl (Or.inl (Or.inl (Or.inl (Or.inl (Or.inl (Or.inl (Or.inl (Or.inl (Or.inl (Or.inl (Or.inr rfl))))))))))))) (by omega) (fun _ z => z)
  have Y25_13 := H25.rowP P25 Y24_13 ((Or.inl (Or.inl (Or.inl (Or.inl (Or.inl (Or.inl (Or.inr rfl)))))))) (by omega) (fun _ z => z)
  have Y25_17 := H25.rowP P25 W24 ((Or.inr rfl)) (by omega) (fun _ z => z)
  have G25 := pS.tr G24 H25 (fun _ z => (Or.inl (Or.inl (Or.inl (Or.inl (Or.inl (Or.inl (Or.inl (Or.inl (Or.inl (Or.inl (Or.inl (Or.inl (Or.inl (Or.inl z))))))))))))))) (fun _ z _ => z) (fun _ z _ => z)
  refine ⟨by decide, by omega, by omega, by decide, fun q94 hq94 => ?_⟩
  refine pNI (t := 9) P25 (pno (pno (pno (pno (pno (pno (pno (pno (pno (pno (pno (pno (pno (pno (hD (9) (by omega)) (by omega)) (by omega)) (by omega)) (by omega)) (by omega)) (by omega)) (by omega)) (by omega)) (by omega)) (by omega)) (by omega)) (by omega)) (by omega)) (by omega)) (by decide) ⟨by decide, by decide⟩ (by decide) (by decide) (fun _ => rfl) (fun _ => rfl) hq94 (fun α26 S26 P26 H26 e26 => ?_)
  have V26 := H26.rawP P26 W25 ((Or.inl (Or.inl (Or.inl (Or.inl (Or.inl (Or.inl (Or.inl (Or.inl (Or.inl (Or.inl (Or.inl (Or.inl (Or.inl (Or.inl hi))))))))))))))) (fun z => z) (fun _ => Or.inl)
  have Y26_10 := H26.rowP P26 Y25_10 ((Or.inl (Or.inl (Or.inl (Or.inl (Or.inl (Or.inl (Or.inl (Or.inl (Or.inl (Or.inl (Or.inl (Or.inr rfl))))))))))))) (fun z => z) (fun _ => Or.inl)
  have Y26_13 := H26.rowP P26 Y25_13 ((Or.inl (Or.inl (Or.inl (Or.inl (Or.inl (Or.inl (Or.inr rfl)))))))) (fun z => z) (fun _ => Or.inl)
  have Y26_17 := H26.rowP P26 Y25_17 ((Or.inr rfl)) (fun z => z) (fun _ => Or.inl)
  have G26 := pS.tr G25 H26 (fun _ z => (Or.inl (Or.inl (Or.inl (Or.inl (Or.inl (Or.inl (Or.inl (Or.inl (Or.inl (Or.inl (Or.inl (Or.inl (Or.inl (Or.inl z))))))))))))))) (fun _ z _ => z) (fun _ z _ => z.elim)
  have a26 : α26 0 = A := (H26 _ ((Or.inl (Or.inl (Or.inl (Or.inl (Or.inl (Or.inl (Or.inl (Or.inl (Or.inl (Or.inl (Or.inl (Or.inl (Or.inl (Or.inl hi)))))))))))))))).1.trans a24
  refine pSetA (t := 9) P26 ((Or.inl (Or.inl (Or.inl (Or.inl (Or.inl (Or.inl (Or.inl (Or.inl (Or.inl (Or.inl (Or.inl (Or.inl (Or.inl (Or.inl (Or.inl hi)))))))))))))))) (pno (pno (pno (pno (pno (pno (pno (pno (pno hn (by omega)) (by omega)) (by omega)) (by omega)) (by omega)) (by omega)) (by omega)) (by omega)) (by omega)) a26 V26 ((Or.inr rfl)) e26 (fun S27 P27 H27 W27 => ?_)
  have Y27_10 := H27.rowP P27 Y26_10 ((Or.inl (Or.inl (Or.inl (Or.inl (Or.inl (Or.inl (Or.inl (Or.inl (Or.inl (Or.inl (Or.inl (Or.inl (Or.inr rfl)))))))))))))) (by omega) (fun _ z => z)
  have Y27_13 := H27.rowP P27 Y26_13 ((Or.inl (Or.inl (Or.inl (Or.inl (Or.inl (Or.inl (Or.inl (Or.inr rfl))))))))) (by omega) (fun _ z => z)
  have Y27_17 := H27.rowP P27 Y26_17 ((Or.inl (Or.inr rfl))) (by omega) (fun _ z => z)
  have G27 := pS.tr G26 H27 (fun _ z => (Or.inl (Or.inl (Or.inl (Or.inl (Or.inl (Or.inl (Or.inl (Or.inl (Or.inl (Or.inl (Or.inl (Or.inl (Or.inl (Or.inl (Or.inl z)))))))))))))))) (fun _ z _ => z) (fun _ z _ => z)
  show rX11_init_go F k0 n0 F 0 _ _ A (Int32.ofNat 0) _ Φ
  refine loop0 rfl 12 0 F rfl (by omega) _ _ _ _ _ _ _ _ _ ⟨P27, a26, ((Or.inl (Or.inl (Or.inl (Or.inl (Or.inl (Or.inl (Or.inl (Or.inl (Or.inl (Or.inl (Or.inl (Or.inl (Or.inl (Or.inl (Or.inl hi)))))))))))))))), ((Or.inl (Or.inl (Or.inl (Or.inl (Or.inl (Or.inl (Or.inl (Or.inl (Or.inl (Or.inl (Or.inl (Or.inl (Or.inr rfl)))))))))))))), ((Or.inl (Or.inl (Or.inl (Or.inl (Or.inl (Or.inl (Or.inl (Or.inr rfl))))))))), ((Or.inl (Or.inr rfl))), (pno (pno (pno (pno (pno (pno (pno (pno (pno hn (by omega)) (by omega)) (by omega)) (by omega)) (by omega)) (by omega)) (by omega)) (by omega)) (by omega)), (pno (pno (pno (pno (pno (pno (pno (pno (pno (hC (10) (by omega)) (by omega)) (by omega)) (by omega)) (by omega)) (by omega)) (by omega)) (by omega)) (by omega)) (by omega)), (pno (pno (pno (pno (pno (pno (pno (pno (pno (hC (13) (by omega)) (by omega)) (by omega)) (by omega)) (by omega)) (by omega)) (by omega)) (by omega)) (by omega)) (by omega)), (pno (pno (pno (pno (pno (pno (pno (pno (pno (hC (17) (by omega)) (by omega)) (by omega)) (by omega)) (by omega)) (by omega)) (by omega)) (by omega)) (by omega)) (by omega)), W27, Y27_10, Y27_13, Y27_17⟩ (fun j => ?_) (fun y a b => (pno (pno (pno (pno (pno (pno (pno (pno (pno (pno (pno (pno (pno (pno (pno (hD y (by omega)) (by omega)) (by omega)) (by omega)) (by omega)) (by omega)) (by omega)) (by omega)) (by omega)) (by omega)) (by omega)) (by omega)) (by omega)) (by omega)) (by omega)) (by omega))) (by omega) (by omega) (fun D1 C1 β1 T1 r1 c1 s1 m1 L1 e1 d1 cc1 hk1 hn1 hm1 => ?_)
  · rw [if_neg (by omega)]
  show rX11_init_go F k0 n0 m1 1 _ _ A (Int32.ofNat 0) _ Φ
  refine loop1 rfl 24 0 m1 rfl (by omega) _ _ _ _ _ _ _ _ _ L1 (fun j => ?_) (fun y a b z => ?_) (by omega) (by omega) (fun D2 C2 β2 T2 r2 c2 s2 m2 L2 e2 d2 cc2 hk2 hn2 hm2 => ?_)
  · rw [if_neg (by omega)]
  · rcases (d1 y).mp z with z | z
    · exact absurd z (pno (pno (pno (pno (pno (pno (pno (pno (pno (pno (pno (pno (pno (pno (pno (hD y (by omega)) (by omega)) (by omega)) (by omega)) (by omega)) (by omega)) (by omega)) (by omega)) (by omega)) (by omega)) (by omega)) (by omega)) (by omega)) (by omega)) (by omega)) (by omega))
    · unfold pEn at z
      omega
  show rX11_init_go F k0 n0 m2 2 _ _ A (Int32.ofNat 0) _ Φ
  refine loop2 rfl 16 0 m2 rfl (by omega) _ _ _ _ _ _ _ _ _ L2 (fun j => ?_) (fun y a b z => ?_) (by omega) (by omega) (fun D3 C3 β3 T3 r3 c3 s3 m3 L3 e3 d3 cc3 hk3 hn3 hm3 => ?_)
  · rw [if_neg (by omega)]
  · rcases (d2 y).mp z with z | z
    · rcases (d1 y).mp z with z | z
      · exact absurd z (pno (pno (pno (pno (pno (pno (pno (pno (pno (pno (pno (pno (pno (pno (pno (hD y (by omega)) (by omega)) (by omega)) (by omega)) (by omega)) (by omega)) (by omega)) (by omega)) (by omega)) (by omega)) (by omega)) (by omega)) (by omega)) (by omega)) (by omega)) (by omega))
      · unfold pEn at z
        omega
    · unfold pEn at z
      omega
  obtain ⟨Q, f0, u0, u1, u2, u3, v0, v1, v2, v3, X0, X1, X2, X3⟩ := L3
  have Q0 := pFin Q u0 X0 (by decide) (cF_no (by decide)) (cSt (by decide)) (fun k => cRA_99 (Or.inr (by decide)))
  have Q1 := pFinR Q0 u1 X1 (by decide) (by decide) (by decide) (fun j => c_none 10 j (by decide)) (fun k t ht => by rw [e1 k]; exact ht)
  have Q2 := pFinR Q1 u2 X2 (by decide) (by decide) (by decide) (fun j => c_none 13 j (by decide)) (fun k t ht => by
    rw [e2 k]
    have : (if k < 24 then some (352 + 8 * k) else none) = some t := ht
    exact this)
  have Q3 := pFinR Q2 u3 X3 (by decide) (by decide) (by decide) (fun j => c_none 17 j (by decide)) (fun k t ht => by
    rw [e3 k]
    have : (if k < 16 then some (1024 + 4 * k) else none) = some t := ht
    exact this)
  have all : ∀ x, cDom x → (((C3 x ∨ x = 0) ∨ x = 10) ∨ x = 13) ∨ x = 17 := fun x hx => by
    have h2 := (cDom_iff x (cDom_lt hx)).mp hx
    by_cases a : x = 0 ∨ x = 10 ∨ x = 13 ∨ x = 17
    · omega
    · refine Or.inl (Or.inl (Or.inl (Or.inl (cc3 x ?_))))
      by_cases b : pCl 1024 1088 x
      · exact Or.inr b
      · refine Or.inl (cc2 x ?_)
        by_cases b2 : pEn 352 544 x
        · exact Or.inr b2
        · refine Or.inl (cc1 x ?_)
          by_cases b3 : pEn 256 352 x
          · exact Or.inr b3
          · refine Or.inl ?_
            unfold pCl at b
            unfold pEn at b2 b3
            simp only [false_or]
            omega
  have less : ∀ x, D3 x → cDom x := fun x hx => by
    rcases (d3 x).mp hx with z | z
    · rcases (d2 x).mp z with z | z
      · rcases (d1 x).mp z with z | z
        · simp only [false_or] at z
          exact (cDom_iff x (by omega)).mpr (by omega)
        · unfold pEn at z
          exact (cDom_iff x (by omega)).mpr (by omega)
      · unfold pEn at z
        exact (cDom_iff x (by omega)).mpr (by omega)
    · unfold pCl at z
      exact (cDom_iff x (by omega)).mpr (by omega)
  obtain ⟨RR, mqe⟩ := pRel Q3 all
  have dd : ∀ x, cDom x → D3 x := fun x hx => (Q3.2.2.2.2 x (all x hx)).1
  exact k β3 T3 (f0.trans hA.symm) RR Q3.1 (fun i hi => (Q3.2.1 i (dd i (Or.inl hi))).2.1) (fun d hd => by rw [mqe d hd]; exact (Q3.2.1 d (dd d (Or.inr hd))).2.1) (fun hW => pWF Q3 all less hW)
end
