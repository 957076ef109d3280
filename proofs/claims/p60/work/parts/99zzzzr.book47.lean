/-! THE LAW: an entry is carried over. -/
section
theorem bF_new {Q : Nat → qT} {n : Nat} {q : qT} (hn : n ≤ 12) : ∀ t j f, j < n → endQ Q n t j → t ≤ f → bF (va_up Q n q) f j = bF Q f j
  | 0, j, f, hj, h, _ => by
    have h : Ql (Q j) < 0 := h
    cases f with
    | zero => rw [bF, bF, mUp_ne _ _ (by omega)]
    | succ f => rw [bF, bF, mUp_ne _ _ (by omega), if_pos h, if_pos h]
  | t + 1, j, f, hj, h, hf => by
    obtain ⟨l, e, l1, h⟩ := h
    obtain ⟨g, rfl⟩ : ∃ g, f = g + 1 := ⟨f - 1, by omega⟩
    have nn : ¬ Ql (Q j) < 0 := by rw [e]; exact nI_nn (by omega)
    rw [bF, bF, mUp_ne _ _ (show j ≠ n by omega), if_neg nn, if_neg nn, e, nI_clamp (by omega), bF_new hn t l g l1 h (by omega), mUp_ne _ _ (show l ≠ n by omega)]
theorem bnd_new {Q : Nat → qT} {n j : Nat} {q : qT} (hn : n ≤ 12) (hj : j < n) (ha : acyc Q n) : bnd (va_up Q n q) j = bnd Q j := by
  obtain ⟨t, ht⟩ := ha j hj
  have := end_lt hn hj ht
  exact bF_new hn t j 12 hj ht (by omega)
def orQ (q : qT) (o : Nat) : qT := (q.1, Qb q, Ql q, Qp q, nI o)
def caP (Ln : Nat → Nat) (n : Nat) (Q : Nat → qT) (o k : Nat) (p : (String ⊕ Int32) × (Nat → Nat) × mV) : Prop := (n < 12 ∧ p.1 = .inr (nI n) ∧ p.2.1 3000 = Ln 3000 ∧ p.2.1 3001 = Ln 3001 ∧ ∃ dq, crsR (Q o) (bnd Q o) dq ∧ Qk dq = k ∧ (k = 1 → dq = flq (Q o) (bnd Q o)) ∧ bST p.2.1 p.2.2 (n + 1) (va_up Q n (orQ dq o))) ∨ ((p.1 = .inl "java/lang/UnsupportedOperationException" ∨ p.1 = .inl "java/lang/IllegalStateException") ∧ bAt Ln 1 n Q p.2.1 p.2.2)
theorem T_carryI {F n o k : Nat} {Q : Nat → qT} {Ln : Nat → Nat} {V : mV} (hF : 2 ^ 34 ≤ F) (hI : bST Ln V n Q) (on : o < n) (hk : k < 12) (hT : Ln 3000 < 5000) : mTo (mX11_carry F Ln (nI o) (nI (ltK k)) V) (caP Ln n Q o k) := by
  have n12 := hI.1.1.2.1
  unfold mX11_carry
  refine T_rfB hF hI.1 on (fun L V1 r i f g => ?_)
  have lk : lkP Ln V n Q L V1 := ⟨r, i, g⟩
  have A1 := lkP.at hI lk
  have hL : L 3000 ≤ Ln 3000 := A1.2.1
  refine T_iN (T_idx (by omega) hk) ?_
  rw [if_pos (i32le.mpr (by rw [nI_toInt (by omega)]; exact Int.natCast_nonneg _))]
  obtain ⟨_, _, _, v4, _, _⟩ := frs_val A1.1.1 on f
  obtain ⟨oa, ob, oc⟩ := A1.1.1.1.2.2.1 o on
  have bo := bnd_b n12 on A1.1.1.1.2.2.2 ob.1 oc
  refine mTo.W (T_cOver hF (by omega) (by omega) v4 f.1 ob bo hk) (fun v V2 _ h => ?_)
  obtain ⟨h, fr⟩ := h
  have fr : mAv wDk V1 V2 := fr
  obtain ⟨I2, f2⟩ := A1.1.dk fr
  have thr : ∀ x, (x = "java/lang/UnsupportedOperationException" ∨ x = "java/lang/IllegalStateException") → mTo (mTh L x V2) (caP Ln n Q o k) := fun x hx => mTo.th (by omega) (Or.inr ⟨hx.imp (fun e => by rw [e]) (fun e => by rw [e]), I2.th, by show va_up L 3000 (L 3000 + 1) 3000 ≤ _; rw [up_3000]; omega, (up_3001 (Ln := L) (x := L 3000 + 1)).trans A1.2.2⟩)
  rcases h with ⟨h, _⟩ | ⟨h, dq, d1, d2, d3, d4⟩
  · have h : v = 0 := h
    rw [if_pos h]
    exact thr _ (Or.inl rfl)
  · have h : v = 1 := h
    have d1 : isQn V2 544 dq := d1
    rw [h, if_neg (by decide), I2.1.1.1]
    refine mTo.ltI (b := 12) rfl rfl (by omega) (by decide) (fun lt => ?_) (fun _ => thr _ (Or.inr rfl))
    refine mTo.ix rfl lt (by decide) ?_
    rw [nI_clamp (by omega), d1.2.1]
    refine mTo.W T_begin3 (fun _ V3 _ p => ?_)
    obtain ⟨_, p2, p3⟩ := p
    have p2 : V3.fI (256 + 8 * n) 9 = 0 := p2
    have p3 : mAv (fun i => i = 256 + 8 * n) V2 V3 := p3
    have d3' : isQn V3 544 dq := d1.mv (fun x _ => by rw [(p3.1 544 (by omega)).1]) (p3.1 545 (by omega)).2.2.1
    refine mTo.W (T_copyQ (F := F) (a := 256 + 8 * n) (c := 544) (by omega) (by omega)) (fun _ V4 _ p => ?_)
    obtain ⟨c1, c2, c3, c4⟩ := p
    have c1 : ∀ j, j < 7 → V4.fI (256 + 8 * n) j = V3.fI 544 j := c1
    have c2 : ∀ j, j < 80 → V4.rI (256 + 8 * n + 1) j = V3.rI 545 j := c2
    have c3 : ∀ j, 7 ≤ j → V4.fI (256 + 8 * n) j = V3.fI (256 + 8 * n) j := c3
    have c4 : mAv (wX3_copyQuestion (256 + 8 * n) 544) V3 V4 := c4
    have q4 : isQn V4 (256 + 8 * n) dq := d3'.cp d2.1.m16 c1 c2
    refine mTo.lt ?_
    have q5 : isQn (mF V4 (256 + 8 * n) 5 (nI o)) (256 + 8 * n) (orQ dq o) := by
      obtain ⟨a0, a1, a2, a3, a4, a5, a6, a7, a8⟩ := q4
      exact ⟨by rw [mF_no (Or.inr (by decide))]; exact a0, by rw [mF_no (Or.inr (by decide))]; exact a1, by rw [mF_no (Or.inr (by decide))]; exact a2, by rw [mF_no (Or.inr (by decide))]; exact a3, by rw [mF_no (Or.inr (by decide))]; exact a4, mF_at, by rw [mF_no (Or.inr (by decide))]; exact a6, a7, a8⟩
    have f0 : V4.fI 0 = V2.fI 0 := by rw [(c4.1 0 (by unfold wX3_copyQuestion; omega)).1, (p3.1 0 (by omega)).1]
    have e02 : (mF V4 (256 + 8 * n) 5 (nI o)).fI 0 2 = nI n := by rw [mF_no (Or.inl (by omega)), f0, I2.1.1.1]
    have ch5 : chS (mF V4 (256 + 8 * n) 5 (nI o)) := by
      obtain ⟨fc, cc, g1, g2, g3, g4⟩ := I2.2.1.2.2.1
      exact ⟨fc, cc, g1, g2, by rw [mF_no (Or.inl (by omega)), f0]; exact g3, by rw [mF_no (Or.inl (by omega)), f0]; exact g4⟩
    rw [e02]
    obtain ⟨p4, e4, _, r2, r3, r4⟩ := T_remember (F := F) (j := n) (l := 121) (by omega) ch5 lt (by decide) q5 d2.1.m16
    obtain ⟨u3, V6⟩ := p4
    have r2 : chS V6 := r2
    have r3 : ∀ i, i ≠ 9 → i ≠ 10 → V6.fI 0 i = (mF V4 (256 + 8 * n) 5 (nI o)).fI 0 i := r3
    have r4 : mAv wX11_remember (mF V4 (256 + 8 * n) 5 (nI o)) V6 := r4
    refine T_iW e4 (mTo.lt ?_)
    have e2 : V6.fI 0 2 = nI n := by rw [r3 2 (by decide) (by decide), e02]
    have fe : V6.fI (256 + 8 * n) = (mF V4 (256 + 8 * n) 5 (nI o)).fI (256 + 8 * n) := (r4.1 _ (by unfold wX11_remember; omega)).1
    have re : V6.rI (256 + 8 * n + 1) = V4.rI (256 + 8 * n + 1) := (r4.1 _ (by unfold wX11_remember; omega)).2.2.1
    rw [e2, nI_1, mF_at, nI_pred]
    refine mTo.ret (Or.inl ⟨lt, rfl, by have := lk.1.th; show L 3000 = _; omega, A1.2.2, dq, d2, d3, d4, ?_⟩)
    refine I2.new (w := fun i => wX11_remember i ∨ i = 256 + 8 * n ∨ i = 256 + 8 * n + 1) lt ?_ mAl.rf (fun i h2 i9 i10 => ?_) mF_at ?_ ?_ ?_ ?_ (fun z hz => ?_) (fun i i1 i2 i3 i4 => ?_) ?_ d2.1 d2.2.1 ?_ d2.2.2.1 (Or.inr ⟨o, on, rfl⟩)
    · refine mAv.F (mAv.tr (mAv.F (mAv.tr (mAv.tr mAv.rf p3 (fun _ z => Or.inr (Or.inl z))) c4 (fun i z => ?_)) (Or.inr (Or.inl rfl))) r4 (fun _ z => Or.inl z)) (Or.inl (by unfold wX11_remember; omega))
      unfold wX3_copyQuestion at z
      omega
    · rw [mF_no (Or.inr h2), r3 i i9 i10, mF_no (Or.inl (by omega)), f0]
    · obtain ⟨fc, cc, c1, c2, c3, c4⟩ := r2
      exact ⟨fc, cc, c1, c2, by rw [mF_no (Or.inr (by decide))]; exact c3, by rw [mF_no (Or.inr (by decide))]; exact c4⟩
    · unfold wX11_remember; omega
    · unfold wX11_remember; omega
    · exact ⟨by unfold wX11_remember; omega, by unfold wX11_remember; omega⟩
    · unfold wX11_remember; omega
    · unfold wX11_remember; omega
    · exact q5.mv (fun i hi => by rw [mF_no (Or.inl (by omega)), fe]) re
    · rw [mF_no (Or.inl (by omega)), fe, mF_no (Or.inr (by decide)), c3 9 (by decide)]
      exact p2
theorem T_carry {G : wkG} {F n o k : Nat} {Q : Nat → qT} {Ln : Nat → Nat} {V : mV} (hF : 2 ^ 34 ≤ F) (hI : bST Ln V n Q) (on : o < n) (hk : k < 12) (hT : Ln 3000 < 5000) : mTo (mL_carry G F Ln (nI o) (nI (ltK k)) V) (fun p => (n < 12 ∧ p.1 = Int32.toInt64 (nI n) ∧ p.2.1 3000 = Ln 3000 ∧ p.2.1 3001 = Ln 3001 ∧ ∃ dq, crsR (Q o) (bnd Q o) dq ∧ Qk dq = k ∧ (k = 1 → dq = flq (Q o) (bnd Q o)) ∧ bST p.2.1 p.2.2 (n + 1) (va_up Q n (orQ dq o))) ∨ ((p.1 = -4000000000000000003 ∨ p.1 = -4000000000000000004) ∧ bAt Ln 1 n Q p.2.1 p.2.2)) := by
  unfold mL_carry
  refine mTo.B (T_carryI hF hI on hk hT) (fun v L V1 _ h => ?_) (fun y L V1 _ h => ?_)
  · rcases h with ⟨h0, h1, h2⟩ | ⟨h1 | h1, _⟩
    · have h1 := Sum.inr.inj h1
      exact mTo.ret (Or.inl ⟨h0, by rw [h1], h2⟩)
    · cases h1
    · cases h1
  · rcases h with ⟨_, h1, _⟩ | ⟨h1 | h1, h2⟩
    · cases h1
    · cases h1
      rw [if_neg (by decide), if_neg (by decide), if_pos rfl]
      exact mTo.ret (Or.inr ⟨Or.inl rfl, h2⟩)
    · cases h1
      rw [if_neg (by decide), if_neg (by decide), if_neg (by decide), if_pos rfl]
      exact mTo.ret (Or.inr ⟨Or.inr rfl, h2⟩)
theorem T_cameFrom {G : wkG} {F n e o : Nat} {Q : Nat → qT} {Ln : Nat → Nat} {V : mV} (hQ : bQ V n Q) (he : e < n) (on : o < 12) (eo : Qo (Q e) = nI o) : mTo (mL_cameFrom G F Ln (nI e) V) (fun p => p = (Int32.toInt64 (nI o), Ln, V)) := by
  obtain ⟨q1, q2, q3, _⟩ := hQ
  obtain ⟨a, b, c⟩ := q3 e he
  unfold mL_cameFrom
  refine (T_wr (P := fun v L V1 => v = nI o ∧ L = Ln ∧ V1 = V) ?_).mono (fun p ⟨v, e, h1, h2, h3⟩ => by rw [← h1, ← h2, ← h3, ← e])
  unfold mX11_cameFrom
  refine T_enB q1 q2 he ?_
  rw [a.2.2.2.2.2.1, eo, if_pos (i32le.mpr (by rw [nI_toInt (by omega)]; exact Int.natCast_nonneg _))]
  exact mTo.ret ⟨_, rfl, rfl, rfl, rfl⟩
theorem T_isCarried {G : wkG} {F n o k : Nat} {Q : Nat → qT} {Ln : Nat → Nat} {V : mV} (hF : 2 ^ 34 ≤ F) (hI : bST Ln V n Q) (on : o < n) (hk : k < 12) (hT : Ln 3000 < 5000) : mTo (mL_isCarried G F Ln (nI o) (nI (ltK k)) V) (fun p => p.1 = 1 ∧ ∃ n' Q', n ≤ n' ∧ bST p.2.1 p.2.2 n' Q' ∧ Qs (Q' 100) = Qs (Q 100) ∧ p.2.1 3000 ≤ Ln 3000 + 1 ∧ p.2.1 3001 = Ln 3001) := by
  have n12 := hI.1.1.2.1
  unfold mL_isCarried
  refine mTo.A (T_carry hF hI on hk hT) (fun v L V1 _ h => ?_)
  rcases h with ⟨lt, h1, h2, h3, dq, d1, d2, d3, h4⟩ | ⟨h1, h2⟩
  · have h1 : v = Int32.toInt64 (nI n) := h1
    have h2 : L 3000 = Ln 3000 := h2
    have h3 : L 3001 = Ln 3001 := h3
    have h4 : bST L V1 (n + 1) (va_up Q n (orQ dq o)) := h4
    obtain ⟨Q', hQ'⟩ : ∃ Q', Q' = va_up Q n (orQ dq o) := ⟨_, rfl⟩
    rw [← hQ'] at h4
    have qn : Q' n = orQ dq o := by rw [hQ']; exact mUp_eq _ _ _
    have qo : Q' o = Q o := by rw [hQ']; exact mUp_ne _ _ (by omega)
    have bo : bnd Q' o = bnd Q o := by rw [hQ']; exact bnd_new n12 on hI.1.1.2.2.2
    have bn : bnd Q' n = Qb dq := by rw [bnd_end (by rw [qn]; exact d1.2.2.1), qn]; rfl
    have q100 : Qs (Q' 100) = Qs (Q 100) := by rw [hQ', mUp_ne _ _ (by omega)]
    have rpE : aRp (Q' n) (bnd Q' n) = aRp (Q' o) (bnd Q' o) := by
      rw [bn, qo, bo, ← d1.2.2.2.1, qn]
      unfold aRp
      rw [ansT_c (q := orQ dq o) (q' := dq) rfl]
    rw [h1, if_pos (show 0 ≤ lg_cmp (Int32.toInt64 (nI n)) (0 : Int64) from (lg_cmp_ge _ _).mpr (by
      rw [i64_le, i64_of, nI_toInt (by omega)]
      exact Int.natCast_nonneg _))]
    refine mTo.A (T_answer hF h4.1 (show o < n + 1 by omega)) (fun v2 L2 V2 _ h => ?_)
    obtain ⟨g1, g2, _⟩ := h
    have g1 : v2 = Int32.toInt64 (aRp (Q' o) (bnd Q' o)) := g1
    have g2 : lkP L V1 (n + 1) Q' L2 V2 := g2
    have I2 := g2.st h4
    refine T_iN (T_entries I2.1.1.1) ?_
    rw [if_pos ((lg_cmp_eq _ _).mpr (by
      have : ∀ n, n < 12 → Int32.toInt64 (nI n) = Int32.toInt64 (nI (n + 1)) - (1 : Int64) := by decide
      exact this n lt)), i64_32]
    refine mTo.A (T_cameFrom (G := G) (F := F) (Ln := L2) (o := o) I2.1.1 (Nat.lt_succ_self n) (by omega) (by rw [qn]; rfl)) (fun v3 L3 V3 _ h => ?_)
    cases h
    rw [if_pos ((lg_cmp_eq _ _).mpr rfl)]
    refine mTo.A (T_answer hF I2.1 (Nat.lt_succ_self n)) (fun v4 L4 V4 _ h => ?_)
    obtain ⟨g3, g4, _⟩ := h
    have g3 : v4 = Int32.toInt64 (aRp (Q' n) (bnd Q' n)) := g3
    have g4 : lkP L2 V2 (n + 1) Q' L4 V4 := g4
    have I4 := g4.st I2
    rw [if_pos ((lg_cmp_eq _ _).mpr (by rw [g3, g1, rpE]))]
    have t2 := g2.1.th
    have t4 := g4.1.th
    refine mTo.A (T_bring hF I4 (Nat.lt_succ_self n) (show o < n + 1 by omega) (by rw [qn]; rfl) (by omega)) (fun v5 L5 V5 _ h => ?_)
    obtain ⟨h, A5⟩ := h
    have A5 : bAt L4 1 (n + 1) Q' L5 V5 := A5
    have t5 : L5 3000 ≤ Ln 3000 + 1 := by have := A5.2.1; omega
    have u5 : L5 3001 = Ln 3001 := by rw [A5.2.2, t4.2, t2.2, h3]
    rcases h with ⟨ts, w1, w2, w3, w4⟩ | ⟨w1, w2⟩
    · have w1 : v5 = Int32.toInt64 (nI ts.length) := w1
      have w3 : rowIs L5 V5 2048 ts := w3
      rw [w1, if_pos (show 0 ≤ lg_cmp (Int32.toInt64 (nI ts.length)) (0 : Int64) from (lg_cmp_ge _ _).mpr (by
        rw [i64_le, i64_of, nI_toInt (by omega)]
        exact Int.natCast_nonneg _))]
      have fin : ∀ w : Int32, (if w = 0 then aNo (Q' o) (bnd Q' o) ts else aYs (Q' o) (bnd Q' o) ts) → mTo (mBA (mL_check G F L5 (nI o) w V5) fun v43 L44 V44 => (if (lg_cmp v43 (0 : Int64)) = 0 then some ((1 : Int32), L44, V44) else some ((0 : Int32), L44, V44))) (fun p => p.1 = 1 ∧ ∃ n' Q', n ≤ n' ∧ bST p.2.1 p.2.2 n' Q' ∧ Qs (Q' 100) = Qs (Q 100) ∧ p.2.1 3000 ≤ Ln 3000 + 1 ∧ p.2.1 3001 = Ln 3001) := fun w hw => by
        refine mTo.A (T_check (w := w) hF A5.1.1 (show o < n + 1 by omega) w3) (fun v6 L6 V6 _ h => ?_)
        obtain ⟨⟨x, x1, _, x3⟩, k6, _, _⟩ := h
        have x1 : v6 = Int32.toInt64 x := x1
        have k6 : lkP L5 V5 (n + 1) Q' L6 V6 := k6
        have t6 := k6.1.th
        rw [x1, x3.mpr hw, if_pos (by decide)]
        exact mTo.ret ⟨rfl, n + 1, Q', by omega, k6.st A5.1, q100, by show L6 3000 ≤ _; omega, by show L6 3001 = _; rw [t6.2, u5]⟩
      rw [g1]
      rcases w4 with ⟨r, y⟩ | ⟨r, y⟩
      · rw [r, if_pos (by decide)]
        exact fin 1 (by rw [if_neg (by decide)]; exact y)
      · rw [r, if_neg (by decide)]
        exact fin 0 (by rw [if_pos rfl]; exact y)
    · have w1 : v5 = -4000000000000000002 := w1
      rw [w1, if_neg (by decide), if_pos (by decide)]
      have nk : k ≠ 1 := fun k1 => by
        have e := d3 k1
        rw [k1] at d2
        rcases d1.2.2.2.2 with ⟨_, k0, ok, _⟩ | ⟨k3, _⟩ | ⟨k4, _⟩
        · refine w2 ⟨by rw [qo]; exact k0, by rw [qn]; exact d2, by rw [qo]; exact ok, by rw [qo, bo, ← e, qn]; rfl, by rw [qo, bo, ← e, bn]⟩
        · omega
        · omega
      have n102 : ¬ nI (ltK k) = (102 : Int32) := fun c => nk (by
        have : ∀ k, k < 12 → nI (ltK k) = (102 : Int32) → k = 1 := by decide
        exact this k hk c)
      rw [if_neg n102]
      exact mTo.ret ⟨rfl, n + 1, Q', by omega, A5.1, q100, t5, u5⟩
  · have h2 : bAt Ln 1 n Q L V1 := h2
    have fin : mTo (some ((1 : Int32), L, V1)) (fun p : Int32 × (Nat → Nat) × mV => p.1 = 1 ∧ ∃ n' Q', n ≤ n' ∧ bST p.2.1 p.2.2 n' Q' ∧ Qs (Q' 100) = Qs (Q 100) ∧ p.2.1 3000 ≤ Ln 3000 + 1 ∧ p.2.1 3001 = Ln 3001) := mTo.ret ⟨rfl, n, Q, Nat.le_refl _, h2.1, rfl, h2.2.1, h2.2.2⟩
    rcases h1 with h1 | h1
    · have h1 : v = -4000000000000000003 := h1
      rw [h1, if_neg (by decide), if_pos (by decide)]
      exact fin
    · have h1 : v = -4000000000000000004 := h1
      rw [h1, if_neg (by decide), if_neg (by decide), if_pos (by decide)]
      exact fin
end
