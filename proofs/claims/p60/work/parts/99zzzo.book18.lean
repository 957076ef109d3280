/-! THE BOOK: an entry is opened. -/
section
theorem kd_i : ∀ k, k < 12 → (wkKd k = nI (ltK k)) ∧ (∀ j, j < k → wkKd j ≠ nI (ltK k)) ∧ (nI (ltK k)).toInt8.toInt32 = nI (ltK k) ∧ ¬ (255 : Int32) < nI (ltK k) := by decide
theorem T_idx {F k : Nat} (hF : 64 ≤ F) (hk : k < 12) : mJ0_indexOf_0f7a4 F (nI (ltK k)) = some (nI k) := by
  obtain ⟨k1, k2, k3, k4⟩ := kd_i k hk
  obtain ⟨b1, b2⟩ := ltK_b k hk
  have go : ∀ k' j, k < j + k' → j ≤ k → mJ1_indexOfChar_4cfef_go F k' 0 (nI 12) (nI (ltK k)) (nI j) = some (nI k) := by
    intro k'
    induction k' with
    | zero => intro j h1 h2; omega
    | succ k' ih =>
      intro j h1 h2
      rw [mJ1_indexOfChar_4cfef_go, if_pos rfl]
      unfold mJ1_indexOfChar_4cfef_b0
      rw [if_neg (show ¬ nI 12 ≤ nI j from fun c => by
        have := i32le.mp c
        rw [nI_toInt (by omega), nI_toInt (by omega)] at this
        omega), if_neg (show ¬ (nI j < 0 ∨ 12 ≤ (nI j).toNatClampNeg) from fun c => c.elim (nI_nn (by omega)) (by rw [nI_clamp (by omega)]; omega)), nI_clamp (by omega)]
      by_cases e : j = k
      · rw [e, if_pos k1]
      · rw [if_neg (k2 j (by omega)), nI_1]
        exact ih (j + 1) (by omega) (by omega)
  unfold mJ0_indexOf_0f7a4 mJ0_indexOf_7cf53 mJ1_indexOf_4cfef mJ1_canEncode_9a6ad mJ1_indexOfChar_4cfef mJ1_indexOfChar_4cfef_s
  rw [if_neg (nI_nn (by omega)), if_neg k4, k3]
  have := go F 0 (by omega) (by omega)
  show mBN (mBN (mBN (some (1 : Int32)) fun v1 => if v1 = 0 then some (-1 : Int32) else (mBN (mJ1_indexOfChar_4cfef_go F F 0 (nI 12) (nI (ltK k)) (nI 0)) fun v10 => some v10)) fun v5 => some v5) (fun v1 => some v1) = _
  rw [this]
  rfl
theorem tabS : ∀ k, k < 12 → (wkTab 0 k).toInt = (loS k : Int) ∧ (wkTab 1 k).toInt = (hiS k : Int) := by decide
theorem T_canS {F k s : Nat} (hk : k < 12) (h1 : loS k ≤ s) (h2 : s ≤ hiS k) (hs : s < 2 ^ 20) : mX11_canHaveSize F (nI k) (nI s) = some 1 := by
  obtain ⟨t0, t1⟩ := tabS k hk
  unfold mX11_canHaveSize
  rw [if_neg (show ¬ (nI k < 0 ∨ 12 ≤ (nI k).toNatClampNeg) from fun c => c.elim (nI_nn (by omega)) (by rw [nI_clamp (by omega)]; omega)), nI_clamp (by omega), if_neg (show ¬ nI s < wkTab 0 k from fun c => by
    have := i32lt.mp c
    rw [nI_toInt (by omega), t0] at this
    omega), if_neg (show ¬ (nI k < 0 ∨ 12 ≤ k) from fun c => c.elim (nI_nn (by omega)) (by omega)), if_neg (show ¬ wkTab 1 k < nI s from fun c => by
    have := i32lt.mp c
    rw [nI_toInt (by omega), t1] at this
    omega)]
theorem end_new {Q : Nat → qT} {n : Nat} {q : qT} : ∀ t i, i < n → endQ Q n t i → endQ (va_up Q n q) (n + 1) t i
  | 0, i, hi, h => by
    show Ql (va_up Q n q i) < 0
    rw [mUp_ne _ _ (by omega)]
    exact h
  | t + 1, i, hi, h => by
    obtain ⟨x, x1, x2, x3⟩ := h
    exact ⟨x, by rw [mUp_ne _ _ (by omega)]; exact x1, by omega, end_new t x x2 x3⟩
theorem acyc_new {Q : Nat → qT} {n : Nat} {q : qT} (h : acyc Q n) (e : Ql q < 0) : acyc (va_up Q n q) (n + 1) := by
  intro i hi
  by_cases c : i = n
  · refine ⟨0, ?_⟩
    show Ql (va_up Q n q i) < 0
    rw [c, mUp_eq]
    exact e
  · obtain ⟨t, ht⟩ := h i (by omega)
    exact ⟨t, end_new t i (by omega) ht⟩
/-- an entry more -/
theorem bST.new {Ln Ln1 : Nat → Nat} {V V1 : mV} {n : Nat} {Q : Nat → qT} {q : qT} {w : Nat → Prop} (h : bST Ln V n Q) (hn : n < 12) (a : mAv w V V1) (b : mAl w Ln Ln1) (f0 : ∀ i, i ≠ 2 → i ≠ 9 → i ≠ 10 → V1.fI 0 i = V.fI 0 i) (f2 : V1.fI 0 2 = nI (n + 1)) (hc : chS V1) (w9 : ¬ w 9) (w17 : ¬ w 17) (wt : ¬ w 2048 ∧ ¬ w 2049) (wc : ∀ z, z < 64 → ¬ w (1024 + z)) (we : ∀ i, 256 ≤ i → i < 352 → i ≠ 256 + 8 * n → i ≠ 256 + 8 * n + 1 → ¬ w i) (hq : isQn V1 (256 + 8 * n) q) (ho : okIt q) (hb : bndQ (Qk q) (Qb q)) (h9 : V1.fI (256 + 8 * n) 9 = 0) (hl : Ql q < 0) (hor : Qo q < 0 ∨ ∃ o, o < n ∧ Qo q = nI o) : bST Ln1 V1 (n + 1) (va_up Q n q) := by
  obtain ⟨⟨⟨q1, q2, q3, q4⟩, hS, hW⟩, hX, hO⟩ := h
  have oe : ∀ i, i < 12 → i ≠ n → V1.fI (256 + 8 * i) = V.fI (256 + 8 * i) := fun i hi ne => (a.1 _ (we _ (by omega) (by omega) (by omega) (by omega))).1
  refine ⟨⟨⟨f2, by omega, fun i hi => ?_, acyc_new q4 hl⟩, fun i hi hi9 => ?_, fun i hi => ?_⟩, ?_, fun i hi => ?_⟩
  · by_cases e : i = n
    · rw [e, mUp_eq]
      exact ⟨hq, ho, hb⟩
    · rw [mUp_ne _ _ e]
      obtain ⟨a', b', c'⟩ := q3 i (by omega)
      exact ⟨a'.mv (fun x _ => by rw [oe i (by omega) e]) (a.1 _ (we _ (by omega) (by omega) (by omega) (by omega))).2.2.1, b', c'⟩
  · by_cases e : i = n
    · rw [e] at hi9
      exact absurd h9 hi9
    · rw [mUp_ne _ _ e]
      rw [oe i (by omega) e] at hi9 ⊢
      obtain ⟨y1, y2, y3, y4⟩ := hS i (by omega) hi9
      exact ⟨y1, y2, y3, y4.mv2 a b (we _ (by omega) (by omega) (by omega) (by omega)) (we _ (by omega) (by omega) (by omega) (by omega))⟩
  · obtain ⟨xs, hx⟩ := hW i hi
    exact ⟨xs, hx.mv2 a b (we _ (by omega) (by omega) (by omega) (by omega)) (we _ (by omega) (by omega) (by omega) (by omega))⟩
  · obtain ⟨⟨ts, t1⟩, h2, _, ⟨c, d1, d2, d3, d4, d5⟩, ⟨p, p1, p2⟩, ⟨e, e1, e2⟩, k, k1, k2⟩ := hX
    have cl := a.2 w17
    refine ⟨⟨ts, t1.mv2 a b wt.1 wt.2⟩, fun j hj => ?_, hc, ⟨c, by rw [f0 15 (by decide) (by decide) (by decide), d1], d2, fun i hi => ?_, fun i j hij hj => by rw [cl]; exact d4 i j hij hj, fun i hi => ?_⟩, ⟨p, by rw [f0 13 (by decide) (by decide) (by decide), p1], p2.1, by rw [mUp_ne _ _ (show (100 : Nat) ≠ n by omega)]; exact p2.2⟩, ⟨e, by rw [f0 17 (by decide) (by decide) (by decide), e1], e2.1, by rw [b 9 w9]; exact e2.2⟩, k, k1, by rw [b 9 w9, k2]⟩
    · obtain ⟨ys, y1⟩ := h2 j hj
      exact ⟨ys, y1.mv2 a b (we _ (by omega) (by omega) (by omega) (by omega)) (we _ (by omega) (by omega) (by omega) (by omega))⟩
    · obtain ⟨⟨z, z1, z2⟩, xs, x1⟩ := d3 i hi
      rw [cl]
      refine ⟨⟨z, z1, z2⟩, xs, ?_⟩
      rw [z2] at x1 ⊢
      exact x1.mv2 a b (by have := wc (4 * z + 1) (by omega); rw [show 1024 + 4 * z + 1 = 1024 + (4 * z + 1) by omega]; exact this) (by have := wc (4 * z + 2) (by omega); rw [show 1024 + 4 * z + 1 + 1 = 1024 + (4 * z + 2) by omega]; exact this)
    · obtain ⟨⟨z, z1, z2⟩, _⟩ := d3 i (by omega)
      obtain ⟨⟨j, j1, j2⟩, j3⟩ := d5 i hi
      rw [cl]
      rw [z2] at j1 j3 ⊢
      have fz := (a.1 (1024 + 4 * z) (wc (4 * z) (by omega))).1
      rw [fz]
      exact ⟨⟨j, j1, by omega⟩, j3⟩
  · by_cases e : i = n
    · rw [e, mUp_eq]
      exact hor.imp id (fun ⟨o, o1, o2⟩ => ⟨o, by omega, o2⟩)
    · rw [mUp_ne _ _ e]
      exact (hO i (by omega)).imp id (fun ⟨o, o1, o2⟩ => ⟨o, by omega, o2⟩)
/-- what is asked when an entry is opened -/
def newQ (k s : Nat) (b : Int32) : qT := ((k, s, 0, fun _ => 0), b, -1, 0, -1)
theorem ok_new {k s : Nat} {b : Int32} (hk : k < 12) (h1 : loS k ≤ s) (h2 : s ≤ hiS k) : okIt (newQ k s b) := ⟨hk, h1, h2, Nat.zero_le _, fun i hi => absurd hi (Nat.not_lt_zero _), fun _ i _ hi => absurd hi (Nat.not_lt_zero _)⟩
theorem T_begin3 {F e k s : Nat} {b : Int32} {V : mV} : mTo (mX3_begin F e (nI k) (nI s) b V) (fun p => isQn p.2 e (newQ k s b) ∧ p.2.fI e 9 = 0 ∧ mAv (fun i => i = e) V p.2) := by
  unfold mX3_begin
  refine mTo.lt (mTo.lt (mTo.lt (mTo.lt (mTo.lt (mTo.lt (mTo.lt (mTo.lt (mTo.lt (mTo.lt (mTo.ret ⟨⟨?_, ?_, ?_, ?_, ?_, ?_, ?_, fun j hj => absurd hj (Nat.not_lt_zero _), fun _ _ => rfl⟩, ?_, ?_⟩))))))))))
  · repeat (first | exact mF_at | rw [mF_no (Or.inr (by decide))])
  · repeat (first | exact mF_at | rw [mF_no (Or.inr (by decide))])
  · repeat (first | exact mF_at | rw [mF_no (Or.inr (by decide))])
  · repeat (first | exact mF_at | rw [mF_no (Or.inr (by decide))])
  · repeat (first | exact mF_at | rw [mF_no (Or.inr (by decide))])
  · repeat (first | exact mF_at | rw [mF_no (Or.inr (by decide))])
  · repeat (first | exact mF_at | rw [mF_no (Or.inr (by decide))])
  · repeat (first | exact mF_at | rw [mF_no (Or.inr (by decide))])
  · exact mAv.F (mAv.F (mAv.F (mAv.F (mAv.F (mAv.F (mAv.F (mAv.F (mAv.F (mAv.F mAv.rf rfl) rfl) rfl) rfl) rfl) rfl) rfl) rfl) rfl) rfl
theorem T_open {G : wkG} {F n k s : Nat} {Q : Nat → qT} {Ln : Nat → Nat} {V : mV} {b : Int32} (hF : 2 ^ 34 ≤ F) (hI : bST Ln V n Q) (hn : n < 12) (hk : k < 12) (h1 : loS k ≤ s) (h2 : s ≤ hiS k) (hb : bndQ k b) : mTo (mL_open G F Ln (nI (ltK k)) (nI s) b V) (fun p => p.1 = Int32.toInt64 (nI n) ∧ bST p.2.1 p.2.2 (n + 1) (va_up Q n (newQ k s b)) ∧ p.2.1 = Ln) := by
  have s9 : s ≤ 9 := (ok_new (b := b) hk h1 h2).s9
  unfold mL_open
  refine (T_wr (P := fun v L V1 => v = nI n ∧ bST L V1 (n + 1) (va_up Q n (newQ k s b)) ∧ L = Ln) ?_).mono (fun p ⟨v, e, h1, h2⟩ => ⟨by rw [e, h1], h2⟩)
  unfold mX11_open
  refine T_iN (T_idx (by omega) hk) ?_
  rw [if_neg (nI_nn (by omega))]
  refine T_iN (T_canS hk h1 h2 (by omega)) ?_
  rw [if_neg (by decide)]
  refine mTo.N (T_canB hk) (fun v _ hv => mTo.tf hv (fun h0 => absurd hb h0) (fun _ => ?_))
  rw [hI.1.1.1]
  refine mTo.ltI (b := 12) rfl rfl (by omega) (by omega) (fun _ => mTo.ix rfl hn (by decide) ?_) (fun z => by omega)
  rw [nI_clamp (by omega)]
  refine mTo.W T_begin3 (fun _ V1 _ p => ?_)
  obtain ⟨p1, p2, p3⟩ := p
  have p1 : isQn V1 (256 + 8 * n) (newQ k s b) := p1
  have p2 : V1.fI (256 + 8 * n) 9 = 0 := p2
  have p3 : mAv (fun i => i = 256 + 8 * n) V V1 := p3
  have f0 : V1.fI 0 = V.fI 0 := (p3.1 0 (by omega)).1
  have c1 : chS V1 := by
    obtain ⟨fc, cc, c1, c2, c3, c4⟩ := hI.2.1.2.2.1
    exact ⟨fc, cc, c1, c2, by rw [f0]; exact c3, by rw [f0]; exact c4⟩
  rw [f0, hI.1.1.1]
  obtain ⟨p4, e4, r1, r2, r3, r4⟩ := T_remember (F := F) (j := n) (l := 111) (by omega) c1 hn (by decide) p1 (Nat.zero_le _)
  obtain ⟨u3, V3⟩ := p4
  have r2 : chS V3 := r2
  have r3 : ∀ i, i ≠ 9 → i ≠ 10 → V3.fI 0 i = V1.fI 0 i := r3
  have r4 : mAv wX11_remember V1 V3 := r4
  refine T_iW e4 (mTo.lt ?_)
  have e2 : V3.fI 0 2 = nI n := by rw [r3 2 (by decide) (by decide), f0, hI.1.1.1]
  have fe : V3.fI (256 + 8 * n) = V1.fI (256 + 8 * n) := (r4.1 _ (by unfold wX11_remember; omega)).1
  have re : V3.rI (256 + 8 * n + 1) = V1.rI (256 + 8 * n + 1) := (r4.1 _ (by unfold wX11_remember; omega)).2.2.1
  rw [e2, nI_1, mF_at, nI_pred]
  refine mTo.ret ⟨nI n, rfl, rfl, ?_, rfl⟩
  refine hI.new (w := fun i => wX11_remember i ∨ i = 256 + 8 * n) hn (mAv.F (mAv.tr (mAv.tr mAv.rf p3 (fun _ z => Or.inr z)) r4 (fun _ z => Or.inl z)) (Or.inl (by unfold wX11_remember; omega))) mAl.rf (fun i h2 i9 i10 => ?_) mF_at ?_ ?_ ?_ ?_ (fun z hz => ?_) (fun i i1 i2 i3 _ => ?_) ?_ (ok_new hk h1 h2) hb ?_ (show (-1 : Int32) < 0 by decide) (Or.inl (show (-1 : Int32) < 0 by decide))
  · rw [mF_no (Or.inr h2), r3 i i9 i10, f0]
  · obtain ⟨fc, cc, c1, c2, c3, c4⟩ := r2
    exact ⟨fc, cc, c1, c2, by rw [mF_no (Or.inr (by decide))]; exact c3, by rw [mF_no (Or.inr (by decide))]; exact c4⟩
  · unfold wX11_remember; omega
  · unfold wX11_remember; omega
  · exact ⟨by unfold wX11_remember; omega, by unfold wX11_remember; omega⟩
  · unfold wX11_remember; omega
  · unfold wX11_remember; omega
  · exact p1.mv (fun i hi => by rw [mF_no (Or.inl (by omega)), fe]) re
  · rw [mF_no (Or.inl (by omega)), fe]
    exact p2
end
