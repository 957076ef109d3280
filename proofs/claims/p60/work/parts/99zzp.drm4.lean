/-! THE PURE PART, drawings: the machine's search finds the least row of rounds, or there is none. -/
section
theorem deg_pos {nb : Nat → Nat} {u p : Nat} (h : plB nb u p) : 0 < degN nb u := by
  have h1 := h.1
  have h2 : p < sdN nb u + degN nb u := h.2
  omega
theorem deg_n {nb : Nat → Nat} {u n : Nat} (hg : gph nb n) (h : 0 < degN nb u) : u < n := by
  apply Classical.byContradiction
  intro c
  rw [degN_0 (hg.2.2.2.2.1 u (by omega))] at h
  omega
theorem bit_n {nb : Nat → Nat} {u v n : Nat} (hg : gph nb n) (hu : u < 7) (hv : v < 7) (h : (nb u).testBit v = true) : v < n := by
  rw [hg.2.1 u v hu hv] at h
  exact deg_n hg (cnt_pos (X := fun i => (nb v).testBit i) h hu)
theorem okT_rg {V : mV} {nb t s : Nat → Nat} {p l : Nat} (hl : l < 7) (hV : prV V nb t p) (hp : sdN nb (l + 1) ≤ p) : rgS V nb t l := ⟨fun q hq => hV.1 q (by omega), fun u hu q hq => hV.2.1 u q (by omega) (by have := pl_lt hu hq; omega) hq⟩
theorem T_fill_at {F D p n u : Nat} {nb t s : Nat → Nat} (hF : 2 ^ 12 ≤ F) (hg : gph nb n) (hu : u < 7) (hpl : plB nb u p) (hS : prS nb t s p) (hc : ∀ l, l < 7 → 0 < degN nb l → sdN nb (l + 1) ≤ p → wOK nb t s l) (rec : ∀ t1 s1 (V1 : mV), edS V1 nb n → prS nb t1 s1 (p + 1) → prV V1 nb t1 (p + 1) → (∀ l, l < 7 → 0 < degN nb l → sdN nb (l + 1) < p + 1 → wOK nb t1 s1 l) → mTo (mX2_fillsFrom F D (nI (p + 1)) V1) (rsQ nb t1 (p + 1))) : ∀ k' o (V1 : mV), 8 < o + k' → o ≤ n → edS V1 nb n → prV V1 nb t p → (∀ t'', goodT nb t'' → agP p t t'' → ¬ t'' p < o) → (p = sdN nb u → ∀ o', o' < o → (nb u).testBit o' = false) → mTo (mX2_fillsFrom_go F (mX2_fillsFrom F D) k' 1 (nI p) (nI u) (nI o) 0 V1) (rsQ nb t p) := by
  have gu := deg_n hg (deg_pos hpl)
  have hg' := hg
  obtain ⟨g1, g2, g3, g4, g5, g6⟩ := hg
  have pP : p < sdN nb 7 := pl_lt (l := 6) (show u ≤ 6 by omega) hpl
  intro k'
  induction k' with
  | zero => intro o V1 h1 h2; omega
  | succ k ih =>
    intro o V1 h1 h2 hE hV hno hlow
    have hE' := hE
    obtain ⟨a1, a2, a3, a4, a5, a6⟩ := hE
    obtain ⟨m, m1, m2, m3⟩ := hV.2.2 u hu
    rw [mX2_fillsFrom_go, if_neg (by decide), if_pos rfl]
    unfold mX2_fillsFrom_b1
    refine mTo.le a1 rfl (by omega) (by omega) (fun z => mTo.ret (Or.inr ⟨rfl, hV, fun t'' gt ag => hno t'' gt ag ?_⟩)) (fun z => mTo.ix rfl (by omega) (by omega) (mTo.ix rfl (by omega) (by omega) ?_))
    · obtain ⟨s'', k1, _⟩ := gt
      obtain ⟨b1, b2, b3⟩ := k1 u (by omega) p hpl
      have := bit_n hg' hu b1 b2
      omega
    · rw [nI_clamp (n := u) (by omega), a3 u hu, m1]
      have o7 : o < 7 := by omega
      have gm : ∀ t'', goodT nb t'' → agP p t t'' → m.testBit o = true → t'' p ≠ o := fun t'' gt ag mo e => by
        obtain ⟨s'', k1, _⟩ := gt
        obtain ⟨q, q1, q2, q3⟩ := (m3 o).mp mo
        have := okT_inj k1 (show u < 7 by omega) hpl q2 (by rw [e, ← ag q q1, q3])
        omega
      have next : ∀ V2 : mV, edS V2 nb n → prV V2 nb t p → (∀ t'', goodT nb t'' → agP p t t'' → t'' p ≠ o) → (p = sdN nb u → (nb u).testBit o = false) → mTo (mX2_fillsFrom_go F (mX2_fillsFrom F D) k 1 (nI p) (nI u) (nI o + 1) 0 V2) (rsQ nb t p) := fun V2 e1 e2 e3 e4 => by
        rw [nI_1]
        refine ih (o + 1) V2 (by omega) (by omega) e1 e2 (fun t'' gt ag c => ?_) (fun c o' ho' => ?_)
        · by_cases d : t'' p = o
          · exact e3 t'' gt ag d
          · exact hno t'' gt ag (by omega)
        · by_cases d : o' = o
          · rw [d]
            exact e4 c
          · exact hlow c o' (by omega)
      refine mTo.hs (S := nsd (nb u) m) (j := o) (nb_not (by have := g4 u; omega)) rfl (by have := nsd_lt (T := m) (n := 7) (g4 u); omega) (by omega) (fun w => mTo.lt ?_) (fun w => ?_)
      · rw [nsd_bit] at w
        refine next V1 hE' hV (fun t'' gt ag e => ?_) (fun c => ?_)
        · cases mo : m.testBit o with
          | true => exact gm t'' gt ag mo e
          | false =>
            rw [mo] at w
            obtain ⟨s'', k1, _⟩ := gt
            have := (k1 u (by omega) p hpl).2.1
            rw [e] at this
            rw [this] at w
            exact absurd w (by decide)
        · cases mo : m.testBit o with
          | true =>
            obtain ⟨q, q1, q2, q3⟩ := (m3 o).mp mo
            have := q2.1
            omega
          | false =>
            rw [mo] at w
            cases nbo : (nb u).testBit o with
            | false => rfl
            | true =>
              rw [nbo] at w
              exact absurd w (by decide)
      · rw [nsd_bit, Bool.and_eq_true, Bool.not_eq_true'] at w
        obtain ⟨w1, w2⟩ := w
        have hset : mX2_setPlace F (nI p) (nI o) V1 = some ((), mI (mI V1 31 (nI p) (nI o)) 32 (nI (7 * u + o)) (nI p)) := T_setPlace (by omega) hu o7 (by rw [a5 p pP, ow_pl hu hpl])
        obtain ⟨Vs, hVs⟩ : ∃ Vs, Vs = mI (mI V1 31 (nI p) (nI o)) 32 (nI (7 * u + o)) (nI p) := ⟨_, rfl⟩
        rw [← hVs] at hset
        refine mTo.W (Q := fun r => r = ((), Vs)) ⟨((), Vs), hset, rfl⟩ (fun _ V2 e2 q => ?_)
        have q0 : V2 = mI (mI V1 31 (nI p) (nI o)) 32 (nI (7 * u + o)) (nI p) := (Prod.mk.inj q).2.trans hVs
        have f2 := NX2_setPlace e2
        have E2 : edS V2 nb n := hE'.mv f2 (by unfold wX2_setPlace; omega) (by unfold wX2_setPlace; omega) (by unfold wX2_setPlace; omega) (by unfold wX2_setPlace; omega) (by unfold wX2_setPlace; omega)
        have r28 : V2.rI 28 = V1.rI 28 := (f2.1 28 (by unfold wX2_setPlace; omega)).2.2.1
        refine mTo.ic rfl (by omega) (by omega) (mTo.ic rfl (by omega) (by omega) (mTo.lt ?_))
        rw [r28, m1, nb_one (by omega), nb_or, nI_1]
        obtain ⟨V3, hV3⟩ : ∃ V3, V3 = mI V2 28 (nI u) (nI (m ||| 2 ^ o)) := ⟨_, rfl⟩
        rw [← hV3]
        have f3 : mAv wX2_fillsFrom V2 V3 := by rw [hV3]; exact mAv.rf.I (Or.inl rfl)
        have E3 : edS V3 nb n := E2.mv f3 (by unfold wX2_fillsFrom; omega) (by unfold wX2_fillsFrom; omega) (by unfold wX2_fillsFrom; omega) (by unfold wX2_fillsFrom; omega) (by unfold wX2_fillsFrom; omega)
        have h31 : ∀ q, V3.rI 31 q = if q = p then nI o else V1.rI 31 q := fun q => by
          rw [hV3, mI_no (by decide), q0, mI_no (by decide), mI_at (nI_clamp (n := p) (by omega))]
        have h32 : ∀ x, V3.rI 32 x = if x = 7 * u + o then nI p else V1.rI 32 x := fun x => by
          rw [hV3, mI_no (by decide), q0, mI_at (nI_clamp (n := 7 * u + o) (by omega)), mI_no (by decide)]
        have h28 : ∀ w, V3.rI 28 w = if w = u then nI (m ||| 2 ^ o) else V1.rI 28 w := fun w => by
          rw [hV3, mI_at (nI_clamp (n := u) (by omega)), r28]
        obtain ⟨P1, P2, P3⟩ := pr_up hg' hu o7 hpl hS hV w1 m1 m2 m3 w2 hlow h31 h32 h28
        obtain ⟨t1, ht1⟩ : ∃ t1, t1 = (fun q => if q = p then o else t q) := ⟨_, rfl⟩
        obtain ⟨s1, hs1⟩ : ∃ s1, s1 = (fun x => if x = 7 * u + o then p else s x) := ⟨_, rfl⟩
        rw [← ht1] at P1 P2 P3
        rw [← hs1] at P1
        have t1p : t1 p = o := by rw [ht1]; exact if_pos rfl
        have ext : ∀ t'', agP p t t'' → t'' p = o → agP (p + 1) t1 t'' := fun t'' ag e q hq => by
          by_cases c : q = p
          · rw [c, t1p, e]
          · rw [← P3 q (by omega), ag q (by omega)]
        have rr := rec t1 s1 V3 E3 P1 P2 (fun l hl hd hp => by
          refine (wOK_c hl (prS_ok hl P1 (by omega)) (prS_ok hl hS (by omega)) (fun u' hu' q hq => ?_)).mpr (hc l hl hd (by omega))
          have := pl_lt hu' hq
          exact (P3 q (by omega)).symm)
        refine mTo.W rr (fun v35 V4 e4 hq => ?_)
        have f4 := NX2_fillsFrom e4
        have E4 : edS V4 nb n := E3.mv f4 (by unfold wX2_fillsFrom; omega) (by unfold wX2_fillsFrom; omega) (by unfold wX2_fillsFrom; omega) (by unfold wX2_fillsFrom; omega) (by unfold wX2_fillsFrom; omega)
        rcases hq with ⟨v1, t', s', k1, k2, k3, k4⟩ | ⟨v0, k1, k2⟩
        · have v1 : v35 = 1 := v1
          subst v1
          rw [if_neg (by decide)]
          refine mTo.ret (Or.inl ⟨rfl, t', s', fun q hq => ?_, k2, fun t'' gt ag => ?_, k4⟩)
          · rw [P3 q hq, k1 q (by omega)]
          · have t'p : t' p = o := by rw [← k1 p (by omega), t1p]
            by_cases e : t'' p = o
            · exact k3 t'' gt (ext t'' ag e)
            · intro i hi hj
              by_cases c : i = p
              · rw [c, t'p]
                have := hno t'' gt ag
                omega
              · by_cases d : i < p
                · rw [← k1 i (by omega), ← P3 i d, ag i d]
                  exact Nat.le_refl _
                · have := hj p (by omega)
                  rw [t'p] at this
                  exact absurd this.symm e
        · have v0 : v35 = 0 := v0
          subst v0
          have k1 : prV V4 nb t1 (p + 1) := k1
          rw [if_pos rfl]
          obtain ⟨m', m1', m2', m3'⟩ := k1.2.2 u hu
          refine mTo.ic rfl (by omega) (by omega) (mTo.ic rfl (by omega) (by omega) (mTo.lt ?_))
          rw [m1', nb_not (by omega)]
          obtain ⟨V5, hV5⟩ : ∃ V5, V5 = mI V4 28 (nI u) (nI (nsd m' (2 ^ o))) := ⟨_, rfl⟩
          rw [← hV5]
          have f5 : mAv wX2_fillsFrom V4 V5 := by rw [hV5]; exact mAv.rf.I (Or.inl rfl)
          have E5 : edS V5 nb n := E4.mv f5 (by unfold wX2_fillsFrom; omega) (by unfold wX2_fillsFrom; omega) (by unfold wX2_fillsFrom; omega) (by unfold wX2_fillsFrom; omega) (by unfold wX2_fillsFrom; omega)
          have P5 : prV V5 nb t p := pr_dn hu hpl P3 t1p o7 k1 m1' m2' m3' (fun q q1 q2 q3 => by
            have := (m3 o).mpr ⟨q, q1, q2, q3⟩
            rw [w2] at this
            exact absurd this (by decide)) (by rw [hV5, mI_no (by decide)]) (by rw [hV5, mI_no (by decide)]) (fun w => by rw [hV5, mI_at (nI_clamp (n := u) (by omega))])
          have r29 : V5.rI 29 u = nI (sdN nb u) := E5.2.2.2.1 u gu
          have sm : sdN nb u ≤ sdN nb 7 := sdN_mono 7 (by omega)
          refine mTo.ic rfl (by omega) (by omega) ?_
          rw [r29]
          have none : ∀ t'', goodT nb t'' → agP p t t'' → t'' p ≠ o := fun t'' gt ag e => k2 t'' gt (ext t'' ag e)
          refine mTo.eqI rfl rfl (by omega) (by omega) (fun e => mTo.ret (Or.inr ⟨rfl, P5, fun t'' gt ag => none t'' gt ag ?_⟩)) (fun e => mTo.lt (next V5 E5 P5 none (fun c => absurd c e)))
          obtain ⟨s'', _, j2, _⟩ := gt
          have l1 := j2 u hu (deg_pos hpl)
          have l2 : isLow nb u o := ⟨o7, w1, fun l hl => hlow e l hl⟩
          rw [← e] at l1
          exact low_u l1 l2
theorem T_fillsFrom {F n : Nat} {nb : Nat → Nat} (hF : 2 ^ 12 ≤ F) (hg : gph nb n) : ∀ D p t s (V : mV), sdN nb 7 < p + D → p ≤ sdN nb 7 → edS V nb n → prS nb t s p → prV V nb t p → (∀ l, l < 7 → 0 < degN nb l → sdN nb (l + 1) < p → wOK nb t s l) → mTo (mX2_fillsFrom F D (nI p) V) (rsQ nb t p) := by
  intro D
  induction D with
  | zero => intro p t s V h1 h2; omega
  | succ D ih =>
    intro p t s V h1 h2 hE hS hV hc
    have hE' := hE
    obtain ⟨a1, a2, a3, a4, a5, a6⟩ := hE
    have g6 := hg.2.2.2.2.2
    rw [mX2_fillsFrom]
    unfold mX2_fillsFrom_a mX2_fillsFrom_s
    obtain ⟨K, hK⟩ : ∃ K, F = K + 1 := ⟨F - 1, by omega⟩
    -- behind the test
    have cont : (∀ l, l < 7 → 0 < degN nb l → sdN nb (l + 1) ≤ p → wOK nb t s l) → mTo (if nI p < V.fI 3 9 then (if nI p < 0 ∨ 22 ≤ (nI p).toNatClampNeg then none else (mLt (V.rI 30 (nI p).toNatClampNeg) fun x4 => (mX2_fillsFrom_go F (mX2_fillsFrom F D) K 1 (nI p) (x4) ((0 : Int32)) 0 V))) else some ((1 : Int32), V)) (rsQ nb t p) := fun hw => by
      refine mTo.ltI rfl a2 (by omega) (by omega) (fun z => mTo.ix rfl (by omega) (by omega) (mTo.lt ?_)) (fun z => mTo.ret (Or.inl ⟨rfl, t, s, fun q _ => rfl, ⟨?_, ?_, ?_⟩, fun t'' gt ag i hi hj => ?_, ?_⟩))
      · rw [nI_clamp (n := p) (by omega), a5 p z]
        obtain ⟨u, u1, u2⟩ := pl_ex 7 z
        rw [ow_pl u1 u2]
        refine T_fill_at hF hg u1 u2 hS hw (fun t1 s1 V1 b1 b2 b3 b4 => ih (p + 1) t1 s1 V1 (by omega) (by omega) b1 b2 b3 b4) K 0 V (by omega) (Nat.zero_le _) hE' hV (fun t'' _ _ c => absurd c (Nat.not_lt_zero _)) (fun _ o' c => absurd c (Nat.not_lt_zero _))
      · exact fun u hu q hq => hS.1 u q hu (by have := pl_lt (l := 6) (show u ≤ 6 by omega) hq; have e : sdN nb (6 + 1) = sdN nb 7 := rfl; omega) hq
      · exact fun u hu hd => hS.2 u hu hd (by
          have : sdN nb (u + 1) = sdN nb u + degN nb u := rfl
          have := sdN_mono (nb := nb) (a := u + 1) 7 (by omega)
          omega)
      · exact fun l hl hd => hw l hl hd (by
          have := sdN_mono (nb := nb) (a := l + 1) 7 (by omega)
          omega)
      · rw [ag i (by omega)]
        exact Nat.le_refl _
      · show prV V nb t (sdN nb 7)
        rw [show sdN nb 7 = p by omega]
        exact hV
    -- no round is full
    have free : (∀ l, l < 7 → 0 < degN nb l → sdN nb (l + 1) ≠ p) → mTo (mX2_fillsFrom_go F (mX2_fillsFrom F D) F 0 (nI p) 0 0 ((0 : Int32)) V) (rsQ nb t p) := fun hno => by
      rw [hK, mX2_fillsFrom_go, if_pos rfl]
      unfold mX2_fillsFrom_b0
      rw [if_pos rfl, ← hK]
      exact cont (fun l hl hd hp => hc l hl hd (by have := hno l hl hd; omega))
    -- the round of l is full
    have full : ∀ l, l < 7 → 0 < degN nb l → sdN nb (l + 1) = p → mTo (mX2_fillsFrom_go F (mX2_fillsFrom F D) F 0 (nI p) 0 0 ((1 : Int32)) V) (rsQ nb t p) := fun l hl hd hp => by
      have en : sdN nb (l + 1) = sdN nb l + degN nb l := rfl
      have pl : plB nb l (p - 1) := ⟨by omega, by omega⟩
      have ol := ow_pl hl pl
      have e1 : nI p - 1 = nI (p - 1) := by
        obtain ⟨x, hx⟩ : ∃ x, p = x + 1 := ⟨p - 1, by omega⟩
        rw [hx, Nat.add_sub_cancel, ← nI_1]
        grind
      have gl := deg_n hg hd
      have okl := prS_ok hl hS (show sdN nb (l + 1) ≤ p by omega)
      rw [hK, mX2_fillsFrom_go, if_pos rfl]
      unfold mX2_fillsFrom_b0
      rw [if_neg (by decide), ← hK, e1]
      refine mTo.ix rfl (by omega) (by omega) ?_
      rw [nI_clamp (n := p - 1) (by omega), a5 (p - 1) (by omega), ol]
      refine mTo.N (T_countWalks hF hg hE' gl okl (okT_rg (s := s) hl hV (by omega))) (fun v _ hv => ?_)
      subst hv
      refine mTo.ic rfl (by omega) (by omega) (mTo.ix rfl (by omega) (by omega) ?_)
      rw [nI_clamp (n := l) (by omega), a6 l gl]
      refine mTo.ite (fun w => cont (fun l' hl' hd' hp' => ?_)) (fun w => mTo.ret (Or.inr ⟨rfl, hV, fun t'' gt ag => w ((due_iff hg hl okl).mpr (good_w hl hd hS (by omega) gt ag))⟩))
      by_cases c : l' = l
      · rw [c]
        exact (due_iff hg hl okl).mp w
      · refine hc l' hl' hd' ?_
        have en' : sdN nb (l' + 1) = sdN nb l' + degN nb l' := rfl
        rcases Nat.lt_or_ge l' l with d | d
        · have := sdN_mono (nb := nb) (a := l' + 1) l (by omega)
          omega
        · have := sdN_mono (nb := nb) (a := l + 1) l' (by omega)
          omega
    refine mTo.le (b := 0) rfl rfl (by omega) (by omega) (fun z => free (fun l hl hd e => ?_)) (fun z => ?_)
    · have en : sdN nb (l + 1) = sdN nb l + degN nb l := rfl
      omega
    · -- the node of the place before
      obtain ⟨l, l1, l2⟩ := pl_ex (nb := nb) (p := p - 1) 7 (by omega)
      have dl := deg_pos l2
      have ol := ow_pl l1 l2
      have l21 := l2.1
      have l22 := l2.2
      refine mTo.eqI rfl a2 (by omega) (by omega) (fun e => full l l1 dl ?_) (fun e => mTo.ix rfl (by omega) (by omega) ?_)
      · have := sdN_mono (nb := nb) (a := l + 1) 7 (by omega)
        omega
      · have e1 : nI p - 1 = nI (p - 1) := by
          obtain ⟨x, hx⟩ : ∃ x, p = x + 1 := ⟨p - 1, by omega⟩
          rw [hx, Nat.add_sub_cancel, ← nI_1]
          grind
        rw [e1]
        refine mTo.ix rfl (by omega) (by omega) ?_
        obtain ⟨u, u1, u2⟩ := pl_ex (nb := nb) (p := p) 7 (by omega)
        have ou := ow_pl u1 u2
        have u21 := u2.1
        have u22 := u2.2
        rw [nI_clamp (n := p - 1) (by omega), nI_clamp (n := p) (by omega), a5 p (by omega), a5 (p - 1) (by omega), ol, ou]
        refine mTo.eqI rfl rfl (by omega) (by omega) (fun e => free (fun l' hl' hd' c => ?_)) (fun e => full l l1 dl ?_)
        · have en' : sdN nb (l' + 1) = sdN nb l' + degN nb l' := rfl
          have := ow_pl hl' (show plB nb l' (p - 1) from ⟨by omega, by omega⟩)
          rw [ol] at this
          rw [e, this] at u22
          omega
        · apply Classical.byContradiction
          intro c
          have := ow_pl l1 (show plB nb l p from ⟨by omega, by omega⟩)
          rw [ou] at this
          exact e this
end
