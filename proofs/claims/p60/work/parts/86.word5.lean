/-! THE PURE PART, words: the solver; the kept row is accepted. -/
section
/-- the least of the list's first j that is t steps (plus 1) away, 256 if there is none -/
def lsG (S : Nat → Nat) (l : List Nat) (t : Nat) : Nat → Nat
  | 0 => 256
  | j + 1 => if S (l.getD j 0) = t then min (l.getD j 0) (lsG S l t j) else lsG S l t j
theorem lsG_in {S : Nat → Nat} {l : List Nat} {t : Nat} : ∀ j, lsG S l t j = 256 ∨ ∃ i, i < j ∧ S (l.getD i 0) = t ∧ lsG S l t j = l.getD i 0
  | 0 => Or.inl rfl
  | j + 1 => by
    have ih := lsG_in (S := S) (l := l) (t := t) j
    rw [lsG]
    by_cases e : S (l.getD j 0) = t
    · rw [if_pos e]
      rcases Nat.le_total (l.getD j 0) (lsG S l t j) with z | z
      · rw [Nat.min_eq_left z]
        exact Or.inr ⟨j, by omega, e, rfl⟩
      · rw [Nat.min_eq_right z]
        rcases ih with h | ⟨i, h1, h2⟩
        · exact Or.inl h
        · exact Or.inr ⟨i, by omega, h2⟩
    · rw [if_neg e]
      rcases ih with h | ⟨i, h1, h2⟩
      · exact Or.inl h
      · exact Or.inr ⟨i, by omega, h2⟩
theorem lsG_le {S : Nat → Nat} {l : List Nat} {t i : Nat} (h : S (l.getD i 0) = t) : ∀ j, i < j → lsG S l t j ≤ l.getD i 0
  | 0, hi => absurd hi (Nat.not_lt_zero _)
  | j + 1, hi => by
    rw [lsG]
    by_cases e : i = j
    · subst e
      rw [if_pos h]
      exact Nat.min_le_left _ _
    · have := lsG_le h j (by omega)
      by_cases c : S (l.getD j 0) = t
      · rw [if_pos c]
        exact Nat.le_trans (Nat.min_le_right _ _) this
      · rw [if_neg c]
        exact this
def lsN (nx : Nat → List Nat) (S : Nat → Nat) (k w : Nat) : Nat := lsG S (nx w) (k + 1) (nx w).length
def wsL (nx : Nat → List Nat) (S : Nat → Nat) : Nat → Nat → List Int32
  | 0, _ => []
  | k + 1, w => nI (lsN nx S k w) :: wsL nx S k (lsN nx S k w)
/-- from a word k + 1 steps away there is a next one k steps away -/
theorem lsN_ok {A B : Nat → Nat} {b m st w k : Nat} {d : Nat → Int32} {p : List Nat × (Nat → Nat)} (hd : qW d m A B) (hb : b ≤ 7) (hB : bfB A B b m st p) (hw : p.2 w = k + 2) : stp A B b m w (lsN (nxl A B b m) p.2 k w) ∧ p.2 (lsN (nxl A B b m) p.2 k w) = k + 1 := by
  have p8 : (2 : Nat) ^ (b + 1) ≤ 2 ^ 8 := Nat.pow_le_pow_right (by decide) (by omega)
  have w0 : p.2 w ≠ 0 := by omega
  obtain ⟨i, i1, i2⟩ := hB.2.1 w w0
  obtain ⟨x0, x1, _⟩ := hB.1 i i1
  rw [i2] at x0 x1
  have mem := fun u => nxl_mem (u := u) hd hb x1 x0
  have ne : w ≠ st := fun z => by
    rw [z, hB.2.2.2.1.1] at hw
    omega
  obtain ⟨y, y1, y2, y3⟩ := hB.2.2.2.1.2 w w0 ne
  obtain ⟨j, j1, j2⟩ := hB.2.1 y y1
  have yb := (hB.1 j j1).2.1
  rw [j2] at yb
  obtain ⟨t, t1, t2⟩ := mem_getD ((mem y).mpr (stp_sy yb y2))
  have hle := lsG_le (S := p.2) (l := nxl A B b m w) (t := k + 1) (i := t) (by rw [t2]; omega) _ t1
  unfold lsN
  rcases lsG_in (S := p.2) (l := nxl A B b m w) (t := k + 1) (nxl A B b m w).length with z | ⟨s, s1, s2, s3⟩
  · rw [t2] at hle
    omega
  · rw [s3]
    exact ⟨(mem _).mp (getD_mem s1), s2⟩
theorem wsL_len {nx : Nat → List Nat} {S : Nat → Nat} : ∀ k w, (wsL nx S k w).length = k
  | 0, _ => rfl
  | k + 1, w => by rw [wsL, List.length_cons, wsL_len k]
/-- the written way leads from w to the start -/
theorem wsL_ok {A B : Nat → Nat} {b m st : Nat} {d : Nat → Int32} {p : List Nat × (Nat → Nat)} (hd : qW d m A B) (hb : b ≤ 7) (hB : bfB A B b m st p) : ∀ k w, p.2 w = k + 1 → inW b (nI w :: wsL (nxl A B b m) p.2 k w) ∧ (nI w :: wsL (nxl A B b m) p.2 k w).getD k 0 = nI st ∧ ∀ i, i < k → stp A B b m (pX (nI w :: wsL (nxl A B b m) p.2 k w) i) (pX (nI w :: wsL (nxl A B b m) p.2 k w) (i + 1)) := by
  have p8 : (2 : Nat) ^ (b + 1) ≤ 2 ^ 8 := Nat.pow_le_pow_right (by decide) (by omega)
  have bd : ∀ w, p.2 w ≠ 0 → 0 < w ∧ w < 2 ^ (b + 1) := fun w h => by
    obtain ⟨i, i1, i2⟩ := hB.2.1 w h
    obtain ⟨x0, x1, _⟩ := hB.1 i i1
    rw [i2] at x0 x1
    exact ⟨x0, x1⟩
  intro k
  induction k with
  | zero =>
    intro w hw
    have : w = st := Classical.byContradiction fun z => by
      obtain ⟨y, y1, _, y3⟩ := hB.2.2.2.1.2 w (by omega) z
      omega
    subst this
    refine ⟨fun i hi => ?_, rfl, fun i hi => absurd hi (Nat.not_lt_zero _)⟩
    have hi : i < 1 := hi
    have : i = 0 := by omega
    subst this
    exact ⟨w, (bd w (by omega)).1, (bd w (by omega)).2, rfl⟩
  | succ k ih =>
    intro w hw
    obtain ⟨l1, l2⟩ := lsN_ok hd hb hB hw
    obtain ⟨i1, i2, i3⟩ := ih _ l2
    have bw := bd w (by omega)
    rw [wsL]
    refine ⟨fun i hi => ?_, i2, fun i hi => ?_⟩
    · cases i with
      | zero => exact ⟨w, bw.1, bw.2, rfl⟩
      | succ i =>
        rw [List.length_cons] at hi
        exact i1 i (by omega)
    · cases i with
      | zero =>
        show stp A B b m (nI w).toNatClampNeg (nI (lsN (nxl A B b m) p.2 k w)).toNatClampNeg
        have b2 := bd _ (show p.2 (lsN (nxl A B b m) p.2 k w) ≠ 0 by omega)
        rw [nI_clamp (by omega), nI_clamp (by omega)]
        exact l1
      | succ i => exact i3 i (by omega)
/-- steps lead back -/
theorem back {A B : Nat → Nat} {b m s1 : Nat} {p1 p2 : List Nat × (Nat → Nat)} (h1 : bfB A B b m s1 p1) (h2 : ∀ x u, p2.2 x ≠ 0 → stp A B b m x u → p2.2 u ≠ 0) : ∀ k x, p1.2 x ≤ k → p1.2 x ≠ 0 → p2.2 x ≠ 0 → p2.2 s1 ≠ 0 := by
  intro k
  induction k with
  | zero => intro x hk h; omega
  | succ k ih =>
    intro x hk hx hx2
    by_cases z : x = s1
    · rw [← z]
      exact hx2
    · obtain ⟨y, y1, y2, y3⟩ := h1.2.2.2.1.2 x hx z
      obtain ⟨i, i1, i2⟩ := h1.2.1 y y1
      have yb := (h1.1 i i1).2.1
      rw [i2] at yb
      exact ih y (by omega) y1 (h2 x y hx2 (stp_sy yb y2))
def nwS (A B : Nat → Nat) (b m st x : Nat) : Nat := (bfA (nxl A B b m) st).2 x
/-- answered 'y' -/
abbrev yesW (A B : Nat → Nat) (b m : Nat) : Prop := fw A m < 2 ^ (b + 1) ∧ fw B m < 2 ^ (b + 1) ∧ nwS A B b m (fw A m) (fw B m) ≠ 0
def manyW (A B : Nat → Nat) (b m : Nat) : Nat := if fw A m < 2 ^ (b + 1) then (bfA (nxl A B b m) (fw A m)).1.length else 0
noncomputable def rowW (A B : Nat → Nat) (b m : Nat) : List Int32 := if fw A m < 2 ^ (b + 1) ∧ fw B m < 2 ^ (b + 1) ∧ nwS A B b m (fw A m) (fw B m) ≠ 0 then nI (fw A m) :: wsL (nxl A B b m) (bfA (nxl A B b m) (fw B m)).2 (nwS A B b m (fw B m) (fw A m) - 1) (fw A m) else if fw A m < 2 ^ (b + 1) then filL (fun x => decide (nwS A B b m (fw A m) x ≠ 0)) (2 ^ (b + 1)) else []
theorem yes_back {A B : Nat → Nat} {b m : Nat} {d : Nat → Int32} (hd : qW d m A B) (hb : b ≤ 7) (h : yesW A B b m) : nwS A B b m (fw B m) (fw A m) ≠ 0 := by
  obtain ⟨f1, f2, f3, f4⟩ := fw_b hd
  obtain ⟨h1, h2, h3⟩ := h
  obtain ⟨a1, a2⟩ := bfA_ok hd hb f1 h1
  obtain ⟨c1, c2⟩ := bfA_ok hd hb f3 h2
  exact back a1 c2 _ _ (Nat.le_refl _) h3 (by rw [c1.2.2.2.1.1]; decide)
theorem rowW_yes {A B : Nat → Nat} {b m : Nat} {d : Nat → Int32} (hd : qW d m A B) (hb : b ≤ 7) (h : yesW A B b m) : stepsOK A B b m (rowW A B b m) := by
  obtain ⟨f1, f2, f3, f4⟩ := fw_b hd
  have bk := yes_back hd hb h
  unfold rowW
  rw [if_pos h]
  obtain ⟨c1, c2⟩ := bfA_ok hd hb f3 h.2.1
  obtain ⟨k, hk⟩ : ∃ k, nwS A B b m (fw B m) (fw A m) = k + 1 := ⟨nwS A B b m (fw B m) (fw A m) - 1, by omega⟩
  obtain ⟨w1, w2, w3⟩ := wsL_ok hd hb c1 k (fw A m) hk
  rw [hk, Nat.add_sub_cancel]
  have len : (nI (fw A m) :: wsL (nxl A B b m) (bfA (nxl A B b m) (fw B m)).2 k (fw A m)).length = k + 1 := by rw [List.length_cons, wsL_len]
  refine ⟨by rw [len]; exact Nat.succ_ne_zero _, w1, rfl, ?_, fun i hi => ?_⟩
  · rw [len, Nat.add_sub_cancel]
    exact w2
  · rw [len] at hi
    exact w3 i (by omega)
theorem rowW_no {A B : Nat → Nat} {b m : Nat} {d : Nat → Int32} (hd : qW d m A B) (hb : b ≤ 7) (h : ¬ yesW A B b m) : closOK A B b m (rowW A B b m) := by
  have p8 : (2 : Nat) ^ (b + 1) ≤ 2 ^ 8 := Nat.pow_le_pow_right (by decide) (by omega)
  obtain ⟨f1, f2, f3, f4⟩ := fw_b hd
  unfold rowW
  rw [if_neg h]
  by_cases c : fw A m < 2 ^ (b + 1)
  · rw [if_pos c]
    obtain ⟨a1, a2⟩ := bfA_ok hd hb f1 c
    have bd : ∀ w, nwS A B b m (fw A m) w ≠ 0 → 0 < w ∧ w < 2 ^ (b + 1) := fun w h => by
      obtain ⟨i, i1, i2⟩ := a1.2.1 w h
      obtain ⟨x0, x1, _⟩ := a1.1 i i1
      rw [i2] at x0 x1
      exact ⟨x0, x1⟩
    have st : ∀ v, v < 2 ^ (b + 1) → (rowSt (filL (fun x => decide (nwS A B b m (fw A m) x ≠ 0)) (2 ^ (b + 1))) v = true ↔ nwS A B b m (fw A m) v ≠ 0) := fun v hv => by
      rw [filL_st (by omega) hv, decide_eq_true_eq]
    obtain ⟨g1, g2, g3⟩ := filL_in (X := fun x => decide (nwS A B b m (fw A m) x ≠ 0)) (2 ^ (b + 1))
    refine ⟨fun i hi => ?_, fun i _ hi => filL_rise _ (by omega) i hi, fun _ => (st _ c).mpr (by unfold nwS; rw [a1.2.2.2.1.1]; decide), ?_, fun i hi u hu => ?_⟩
    · obtain ⟨v, v1, v2, v3⟩ := g1 i hi
      exact ⟨v, (bd v (of_decide_eq_true v2)).1, v1, v3⟩
    · cases q : rowSt (filL (fun x => decide (nwS A B b m (fw A m) x ≠ 0)) (2 ^ (b + 1))) (fw B m) with
      | false => rfl
      | true =>
        exfalso
        by_cases c2 : fw B m < 2 ^ (b + 1)
        · exact h ⟨c, c2, (st _ c2).mp q⟩
        · obtain ⟨i, i1, i2⟩ := rowSt_iff.mp q
          obtain ⟨v, v1, _, v3⟩ := g1 i i1
          rw [i2] at v3
          have := (nI_eq (by omega) (by omega)).mp v3
          omega
    · obtain ⟨v, v1, v2, v3⟩ := g1 i hi
      rw [pX_eq v3 (by omega)] at hu
      exact (st u (stp_b hd hu).2).mpr (a2 v u (of_decide_eq_true v2) hu)
  · rw [if_neg c]
    exact ⟨fun i hi => absurd hi (Nat.not_lt_zero _), fun i _ hi => absurd hi (Nat.not_lt_zero _), fun z => absurd z c, rfl, fun i hi => absurd hi (Nat.not_lt_zero _)⟩
theorem T_writeSteps {F e s m b st w : Nat} {Ln : Nat → Nat} {A B : Nat → Nat} {d : Nat → Int32} {p : List Nat × (Nat → Nat)} {V : mV} (hF : 2 ^ 18 ≤ F) (he : 256 ≤ e) (he2 : e < 1024) (hk : mK (e + 2) = 9) (hb : b ≤ 7) (hm : m ≤ 6) (hd : qW d m A B) (hB : bfB A B b m st p) (hS : bfS V p) (hq : enQ V e s m (nI b) d) (hR : rowIs Ln V (e + 2) []) (hw : p.2 w ≠ 0) : mTo (mX10_writeSteps F Ln e (nI w) V) (fun q => rowIs q.2.1 q.2.2 (e + 2) (nI w :: wsL (nxl A B b m) p.2 (p.2 w - 1) w)) := by
  have p8 : (2 : Nat) ^ (b + 1) ≤ 2 ^ 8 := Nat.pow_le_pow_right (by decide) (by omega)
  have bd : ∀ w, p.2 w ≠ 0 → 0 < w ∧ w < 2 ^ (b + 1) := fun w h => by
    obtain ⟨i, i1, i2⟩ := hB.2.1 w h
    obtain ⟨x0, x1, _⟩ := hB.1 i i1
    rw [i2] at x0 x1
    exact ⟨x0, x1⟩
  have len : p.1.length < 256 := bfB_len (u := 0) hb hB (by omega) (Classical.byContradiction fun z => by have := bd 0 z; omega)
  have go : ∀ k', (∀ k w acc Ln (V : mV), k * 100 + 1 ≤ k' → p.2 w = k + 1 → acc.length + k ≤ 300 → enQ V e s m (nI b) d → (∀ x, x < 256 → V.rI 82 x = nI (p.2 x) - 1) → rowIs Ln V (e + 2) acc → mTo (mX10_writeSteps_go F k' 0 Ln e (nI w) (nI k) 0 0 V) (fun q => rowIs q.2.1 q.2.2 (e + 2) (acc ++ wsL (nxl A B b m) p.2 k w))) ∧ (∀ k w j acc Ln (V : mV), k * 100 + ((nxl A B b m w).length - j) + 3 ≤ k' → p.2 w = k + 2 → j ≤ (nxl A B b m w).length → acc.length + k < 300 → enQ V e s m (nI b) d → (∀ x, x < 256 → V.rI 82 x = nI (p.2 x) - 1) → nxS V (nxl A B b m w) → rowIs Ln V (e + 2) acc → mTo (mX10_writeSteps_go F k' 1 Ln e 0 (nI (k + 1)) (nI (lsG p.2 (nxl A B b m w) (k + 1) j)) (nI j) V) (fun q => rowIs q.2.1 q.2.2 (e + 2) (acc ++ wsL (nxl A B b m) p.2 (k + 1) w))) := by
    intro k'
    induction k' with
    | zero => exact ⟨fun k w acc Ln V h => by omega, fun k w j acc Ln V h => by omega⟩
    | succ x ih =>
      obtain ⟨ih0, ih1⟩ := ih
      refine ⟨fun k w acc Ln V h1 h2 h3 hq hS hR => ?_, fun k w j acc Ln V h1 h2 h3 h4 hq hS hN hR => ?_⟩
      · have lk := hB.2.2.2.2 w
        rw [mX10_writeSteps_go, if_pos rfl]
        unfold mX10_writeSteps_b0
        refine mTo.le (b := 0) rfl rfl (by omega) (by omega) (fun z => mTo.ret ?_) (fun z => ?_)
        · have : k = 0 := by omega
          subst this
          show rowIs Ln V (e + 2) (acc ++ [])
          rw [List.append_nil]
          exact hR
        · obtain ⟨t, rfl⟩ : ∃ t, k = t + 1 := ⟨k - 1, by omega⟩
          obtain ⟨w0, w1⟩ := bd w (by omega)
          have ll := nxl_len (A := A) (B := B) (b := b) hm (show w < 256 by omega) w0
          refine mTo.W (T_findNext (F := F) (by omega) he hb hm w1 w0 hd hq) (fun a V1 _ q => ?_)
          obtain ⟨q1, q2⟩ := q
          have q2 : mAv (wX10_findNext e) V V1 := q2
          exact ih1 t w 0 acc Ln V1 (by omega) h2 (Nat.zero_le _) (by omega) (hq.mv q2 (by unfold wX10_findNext; omega) (by unfold wX10_findNext; omega)) (fun y hy => by rw [(q2.1 82 (by unfold wX10_findNext; omega)).2.2.1]; exact hS y hy) q1 (hR.mv q2 (by unfold wX10_findNext; omega) (by unfold wX10_findNext; omega))
      · obtain ⟨w0, w1⟩ := bd w (by omega)
        have lk := hB.2.2.2.2 w
        have ll := nxl_len (A := A) (B := B) (b := b) hm (show w < 256 by omega) w0
        have mem := fun u => nxl_mem (u := u) hd hb w1 w0
        rw [mX10_writeSteps_go, if_neg (by decide), if_pos rfl]
        unfold mX10_writeSteps_b1
        refine mTo.le hN.1 rfl (by omega) (by omega) (fun z => ?_) (fun z => mTo.ix rfl (by omega) (by omega) ?_)
        · have : j = (nxl A B b m w).length := by omega
          subst this
          obtain ⟨l1, l2⟩ := lsN_ok hd hb hB h2
          have hl : lsG p.2 (nxl A B b m w) (k + 1) (nxl A B b m w).length = lsN (nxl A B b m) p.2 k w := rfl
          rw [hl]
          refine mTo.A (T_radd hk hR (by omega)) (fun a L1 V1 _ q => mTo.lt ?_)
          obtain ⟨q1, q2, _⟩ := q
          have q2 : mAv (wX9_add (e + 2)) V V1 := q2
          rw [nI_m1', nI_pred]
          have g := ih0 k (lsN (nxl A B b m) p.2 k w) (acc ++ [nI (lsN (nxl A B b m) p.2 k w)]) L1 V1 (by omega) l2 (by rw [List.length_append]; show acc.length + 1 + k ≤ 300; omega) (hq.mv q2 (by unfold wX9_add; omega) (by unfold wX9_add; omega)) (fun y hy => by rw [(q2.1 82 (by unfold wX9_add; omega)).2.2.1]; exact hS y hy) q1
          rw [List.append_assoc] at g
          exact g
        · obtain ⟨u0, u1⟩ := stp_b hd ((mem _).mp (getD_mem z))
          have cj : (nI j).toNatClampNeg = j := nI_clamp (by omega)
          have cu : (nI ((nxl A B b m w).getD j 0)).toNatClampNeg = (nxl A B b m w).getD j 0 := nI_clamp (by omega)
          rw [show V.rI 83 (nI j).toNatClampNeg = nI ((nxl A B b m w).getD j 0) by rw [cj, hN.2 j z]]
          refine mTo.ix rfl (by omega) (by omega) ?_
          rw [show V.rI 82 (nI ((nxl A B b m w).getD j 0)).toNatClampNeg = nI (p.2 ((nxl A B b m w).getD j 0)) - 1 by rw [cu, hS _ (by omega)]]
          have lu := hB.2.2.2.2 ((nxl A B b m w).getD j 0)
          have g := ih1 k w (j + 1) acc Ln V
          rw [lsG] at g
          have lsb : lsG p.2 (nxl A B b m w) (k + 1) j ≤ 256 := by
            rcases lsG_in (S := p.2) (l := nxl A B b m w) (t := k + 1) j with y | ⟨i, i1, _, i3⟩
            · omega
            · rw [i3]
              have := (stp_b hd ((mem _).mp (getD_mem (show i < (nxl A B b m w).length by omega)))).2
              omega
          by_cases c : p.2 ((nxl A B b m w).getD j 0) = k + 1
          · rw [if_pos (show nI (p.2 ((nxl A B b m w).getD j 0)) - 1 = nI (k + 1) - 1 by rw [c])]
            rw [if_pos c] at g
            refine mTo.ix rfl (by omega) (by omega) (mTo.lt (mTo.lt ?_))
            rw [nI_1]
            rcases Nat.lt_or_ge ((nxl A B b m w).getD j 0) (lsG p.2 (nxl A B b m w) (k + 1) j) with y | y
            · rw [if_pos ((nI_ltI (by omega) (by omega)).mpr y)]
              rw [Nat.min_eq_left (by omega)] at g
              exact g (by omega) h2 (by omega) h4 hq hS hN hR
            · rw [if_neg (fun q => by have := (nI_ltI (by omega) (by omega)).mp q; omega)]
              rw [Nat.min_eq_right y] at g
              exact g (by omega) h2 (by omega) h4 hq hS hN hR
          · rw [if_neg (show ¬ nI (p.2 ((nxl A B b m w).getD j 0)) - 1 = nI (k + 1) - 1 from fun y => c ((nI_m1_eq (by omega) (by omega)).mp y))]
            rw [if_neg c] at g
            refine mTo.lt ?_
            rw [nI_1]
            exact g (by omega) h2 (by omega) h4 hq hS hN hR
  obtain ⟨w0, w1⟩ := bd w hw
  have lk := hB.2.2.2.2 w
  unfold mX10_writeSteps mX10_writeSteps_s
  refine mTo.A (T_radd hk hR (by decide)) (fun a L1 V1 _ q => mTo.ix rfl (by omega) (by omega) (mTo.lt ?_))
  obtain ⟨q1, q2, _⟩ := q
  have q2 : mAv (wX9_add (e + 2)) V V1 := q2
  obtain ⟨k, hk2⟩ : ∃ k, p.2 w = k + 1 := ⟨p.2 w - 1, by omega⟩
  have hS1 : ∀ x, x < 256 → V1.rI 82 x = nI (p.2 x) - 1 := fun y hy => by rw [(q2.1 82 (by unfold wX9_add; omega)).2.2.1]; exact hS.2 y hy
  rw [nI_clamp (by omega), hS1 w (by omega), hk2, nI_pred, Nat.add_sub_cancel]
  exact (go F).1 k w [nI w] L1 V1 (by omega) hk2 (by show 1 + k ≤ 300; omega) (hq.mv q2 (by unfold wX9_add; omega) (by unfold wX9_add; omega)) hS1 q1
theorem T_solveWords {F e s m b : Nat} {Ln : Nat → Nat} {A B : Nat → Nat} {d : Nat → Int32} {V : mV} (hF : 2 ^ 22 ≤ F) (he : 256 ≤ e) (he2 : e < 1024) (hk : mK (e + 2) = 9) (hb : b ≤ 7) (hm : m ≤ 6) (hd : qW d m A B) (hq : enQ V e s m (nI b) d) (hR : rowIs Ln V (e + 2) []) : mTo (mX10_solveWords F Ln e V) (fun p => (yesW A B b m → p.2.2.fI e 11 = 121) ∧ (¬ yesW A B b m → p.2.2.fI e 11 = 110) ∧ p.2.2.fI e 12 = nI (manyW A B b m) ∧ rowIs p.2.1 p.2.2 (e + 2) (rowW A B b m)) := by
  have p8 : (2 : Nat) ^ (b + 1) ≤ 2 ^ 8 := Nat.pow_le_pow_right (by decide) (by omega)
  obtain ⟨f1, f2, f3, f4⟩ := fw_b hd
  -- the closure is written
  have fil : ∀ (X : Nat → Bool), X 0 = false → ∀ k' j Ln (V : mV), 2 ^ (b + 1) < j + k' → j ≤ 2 ^ (b + 1) → (∀ x, x < 256 → (V.rI 82 x < 0 ↔ X x = false)) → rowIs Ln V (e + 2) (filL X j) → mTo (mX10_solveWords_go F k' 1 Ln e 0 0 (nI (2 ^ (b + 1))) (nI j) 0 V) (fun p => rowIs p.2.1 p.2.2 (e + 2) (filL X (2 ^ (b + 1)))) := fun X hX0 => by
    intro k'
    induction k' with
    | zero => intro j Ln V h1 h2; omega
    | succ k ih =>
      intro j Ln V h1 h2 hS hR
      rw [mX10_solveWords_go, if_neg (by decide), if_pos rfl]
      unfold mX10_solveWords_b1
      have g := ih (j + 1)
      rw [filL] at g
      refine mTo.le rfl rfl (by omega) (by omega) (fun z => mTo.ret ?_) (fun z => mTo.ix rfl (by omega) (by omega) (mTo.ite (fun c => mTo.lt ?_) (fun c => ?_)))
      · have : j = 2 ^ (b + 1) := by omega
        rw [← this]
        exact hR
      · rw [nI_clamp (by omega)] at c
        rw [if_neg (by rw [(hS j (by omega)).mp c]; decide)] at g
        rw [nI_1]
        exact g Ln V (by omega) (by omega) hS hR
      · rw [nI_clamp (by omega)] at c
        have xj : X j = true := by
          cases q : X j with
          | true => rfl
          | false => exact absurd ((hS j (by omega)).mpr q) c
        rw [if_pos xj] at g
        have := (filL_in (X := X) j).2.2
        refine mTo.A (T_radd hk hR (by omega)) (fun a L1 V1 _ q => mTo.lt ?_)
        obtain ⟨q1, q2, _⟩ := q
        have q2 : mAv (wX9_add (e + 2)) V V1 := q2
        rw [nI_1]
        exact g L1 V1 (by omega) (by omega) (fun x hx => by rw [(q2.1 82 (by unfold wX9_add; omega)).2.2.1]; exact hS x hx) q1
  -- told 'n'
  have tellN : ∀ (k : Nat) (V : mV), 2 ^ 10 ≤ k → ¬ yesW A B b m → enQ V e s m (nI b) d → rowIs Ln V (e + 2) [] → (fw A m < 2 ^ (b + 1) → bfS V (bfA (nxl A B b m) (fw A m))) → mTo (mBW (mX3_tell F e ((0 : Int32)) (nI (manyW A B b m)) V) fun v9 V10 => (if nI (2 ^ (b + 1)) ≤ nI (fw A m) then some ((), Ln, V10) else (mX10_solveWords_go F k 1 Ln e 0 0 (nI (2 ^ (b + 1))) ((1 : Int32)) 0 V10))) (fun p => (yesW A B b m → p.2.2.fI e 11 = 121) ∧ (¬ yesW A B b m → p.2.2.fI e 11 = 110) ∧ p.2.2.fI e 12 = nI (manyW A B b m) ∧ rowIs p.2.1 p.2.2 (e + 2) (rowW A B b m)) := fun k V hkk hn hq hR hS => by
    refine mTo.W T_tell (fun a V3 _ q => ?_)
    obtain ⟨t1, t2, t3, t4, _, t5⟩ := q
    have t1 : V3.fI e 11 = (if (0 : Int32) = 0 then (110 : Int32) else 121) := t1
    have t2 : V3.fI e 12 = _ := t2
    have t4 : V3.rI = V.rI := t4
    have hR3 : rowIs Ln V3 (e + 2) [] := by
      obtain ⟨a1, a2, a3, a4⟩ := hR
      exact ⟨by rw [show V3.fI (e + 2) = V.fI (e + 2) from t5 _ (by omega)]; exact a1, a2, a3, fun i hi => by rw [t4]; exact a4 i hi⟩
    refine mTo.le rfl rfl (by omega) (by omega) (fun z => mTo.ret ⟨fun y => absurd y hn, fun _ => by rw [t1, if_pos rfl], t2, ?_⟩) (fun z => ?_)
    · unfold rowW
      rw [if_neg hn, if_neg (by omega)]
      exact hR3
    · have z : fw A m < 2 ^ (b + 1) := by omega
      have hB := (bfA_ok hd hb f1 z).1
      obtain ⟨p, e2, r⟩ := fil (fun x => decide (nwS A B b m (fw A m) x ≠ 0)) (decide_eq_false (fun y => y (Classical.byContradiction fun w => by
        obtain ⟨i, i1, i2⟩ := hB.2.1 0 w
        have := (hB.1 i i1).1
        omega))) k 1 Ln V3 (by omega) (by have := Nat.two_pow_pos (b + 1); omega) (fun x hx => by
        rw [t4, (hS z).2 x hx, decide_eq_false_iff_not]
        have lu := hB.2.2.2.2 x
        have len : (bfA (nxl A B b m) (fw A m)).1.length < 256 := bfB_len (u := 0) hb hB (by omega) (Classical.byContradiction fun w => by
          obtain ⟨i, i1, i2⟩ := hB.2.1 0 w
          have := (hB.1 i i1).1
          omega)
        have nn := nI_m1_neg (x := nwS A B b m (fw A m) x) (show (bfA (nxl A B b m) (fw A m)).2 x < 2 ^ 20 by omega)
        constructor
        · intro y w
          have := nn.mpr w
          have h1 := i32lt.mp y
          have h2 := i32le.mp this
          have h1 : (nI (nwS A B b m (fw A m) x) - 1).toInt < (0 : Int32).toInt := h1
          omega
        · intro w
          have w : nwS A B b m (fw A m) x = 0 := Decidable.not_not.mp w
          show nI (nwS A B b m (fw A m) x) - 1 < 0
          rw [w]
          decide) (by
        have x0 : decide (nwS A B b m (fw A m) 0 ≠ 0) = false := decide_eq_false (fun y => y (Classical.byContradiction fun w => by
          obtain ⟨i, i1, i2⟩ := hB.2.1 0 w
          have := (hB.1 i i1).1
          omega))
        rw [filL, if_neg (by rw [x0]; decide)]
        exact hR3)
      have fr2 := ((NX10_solveWords_go (v := p.1) (Ln1 := p.2.1) (V1 := p.2.2) k).2 _ _ _ _ _ e2).1
      have fe : p.2.2.fI e = V3.fI e := (fr2.1 e (by unfold wX10_solveWords_1; omega)).1
      refine ⟨p, e2, fun y => absurd y hn, fun _ => by rw [fe, t1, if_pos rfl], by rw [fe, t2], ?_⟩
      unfold rowW
      rw [if_neg hn, if_pos z]
      exact r
  unfold mX10_solveWords mX10_solveWords_s
  refine mTo.so (T_first hm hd hq) (mTo.so (T_second hm hd hq) (mTo.so (T_beyond hb hq) ?_))
  obtain ⟨k, rfl⟩ : ∃ k, F = k + 1 := ⟨F - 1, by omega⟩
  refine mTo.le rfl rfl (by omega) (by omega) (fun z => ?_) (fun z => ?_)
  · rw [mX10_solveWords_go, if_pos rfl]
    unfold mX10_solveWords_b0
    rw [if_pos ((nI_leI (by omega) (by omega)).mpr z)]
    have hm0 : manyW A B b m = 0 := by unfold manyW; rw [if_neg (by omega)]
    have := tellN k V (by omega) (fun y => by have := y.1; omega) hq hR (fun y => by omega)
    rw [hm0] at this ⊢
    exact this
  · obtain ⟨p, e1, q1, q2, q3⟩ := T_stepFrom (F := k + 1) hF he hb hm hd f1 z hq
    have hB := (bfA_ok hd hb f1 z).1
    have hmm : manyW A B b m = (bfA (nxl A B b m) (fw A m)).1.length := by unfold manyW; rw [if_pos z]
    refine mTo.W (Q := fun q => q.1 = nI (bfA (nxl A B b m) (fw A m)).1.length ∧ bfS q.2 (bfA (nxl A B b m) (fw A m)) ∧ mAv (wX10_stepFrom e) V q.2) ⟨p, e1, q1, q2, q3⟩ (fun a V1 _ q => ?_)
    obtain ⟨g1, g2, g3⟩ := q
    have g1 : a = nI (manyW A B b m) := by rw [hmm]; exact g1
    have g3 : mAv (wX10_stepFrom e) V V1 := g3
    have g2 : bfS V1 (bfA (nxl A B b m) (fw A m)) := g2
    have hq1 := hq.mv g3 (by unfold wX10_stepFrom; omega) (by unfold wX10_stepFrom; omega)
    have hR1 := hR.mv g3 (by unfold wX10_stepFrom; omega) (by unfold wX10_stepFrom; omega)
    rw [mX10_solveWords_go, if_pos rfl]
    unfold mX10_solveWords_b0
    rw [if_neg (fun y => by have := (nI_leI (by omega) (by omega)).mp y; omega), g1]
    refine mTo.le rfl rfl (by omega) (by omega) (fun y => tellN k V1 (by omega) (fun w => by have := w.2.1; omega) hq1 hR1 (fun _ => g2)) (fun y => mTo.ix rfl (by omega) (by omega) ?_)
    rw [show V1.rI 82 (nI (fw B m)).toNatClampNeg = nI (nwS A B b m (fw A m) (fw B m)) - 1 by rw [nI_clamp (by omega)]; exact g2.2 _ f4]
    have lu := hB.2.2.2.2 (fw B m)
    have len : (bfA (nxl A B b m) (fw A m)).1.length < 256 := bfB_len (u := 0) hb hB (by omega) (Classical.byContradiction fun w => by
      obtain ⟨i, i1, i2⟩ := hB.2.1 0 w
      have := (hB.1 i i1).1
      omega)
    have lw : nwS A B b m (fw A m) (fw B m) < 2 ^ 20 := by show (bfA (nxl A B b m) (fw A m)).2 (fw B m) < 2 ^ 20; omega
    refine mTo.ite (fun c => tellN k V1 (by omega) (fun w => ?_) hq1 hR1 (fun _ => g2)) (fun c => ?_)
    · have h2 := i32le.mp ((nI_m1_neg lw).mpr w.2.2)
      have h1 := i32lt.mp c
      omega
    · have yes : yesW A B b m := ⟨z, y, fun w => c (by rw [w]; decide)⟩
      have bk := yes_back hd hb yes
      refine mTo.W T_tell (fun a V3 _ q => ?_)
      obtain ⟨t1, t2, t3, t4, _, t5⟩ := q
      have t1 : V3.fI e 11 = (if (1 : Int32) = 0 then (110 : Int32) else 121) := t1
      have t2 : V3.fI e 12 = _ := t2
      have t3 : ∀ k, k ≠ 11 → k ≠ 12 → V3.fI e k = V1.fI e k := t3
      have t4 : V3.rI = V1.rI := t4
      have hq3 : enQ V3 e s m (nI b) d := ⟨by rw [t3 _ (by decide) (by decide)]; exact hq1.1, by rw [t3 _ (by decide) (by decide)]; exact hq1.2.1, by rw [t3 _ (by decide) (by decide)]; exact hq1.2.2.1, fun j hj => by rw [t4]; exact hq1.2.2.2 j hj⟩
      have hR3 : rowIs Ln V3 (e + 2) [] := by
        obtain ⟨a1, a2, a3, a4⟩ := hR1
        exact ⟨by rw [show V3.fI (e + 2) = V1.fI (e + 2) from t5 _ (by omega)]; exact a1, a2, a3, fun i hi => by rw [t4]; exact a4 i hi⟩
      obtain ⟨p2, e2, r1, r2, r3⟩ := T_stepFrom (F := k + 1) hF he hb hm hd f3 y hq3
      refine mTo.W (Q := fun q => bfS q.2 (bfA (nxl A B b m) (fw B m)) ∧ mAv (wX10_stepFrom e) V3 q.2) ⟨p2, e2, r2, r3⟩ (fun a V4 _ q => ?_)
      obtain ⟨h1, h2⟩ := q
      have h1 : bfS V4 (bfA (nxl A B b m) (fw B m)) := h1
      have h2 : mAv (wX10_stepFrom e) V3 V4 := h2
      have fe4 : V4.fI e = V3.fI e := (h2.1 e (by unfold wX10_stepFrom; omega)).1
      obtain ⟨p5, e5, r5⟩ := T_writeSteps (F := k + 1) (st := fw B m) (w := fw A m) (by omega) he he2 hk hb hm hd (bfA_ok hd hb f3 y).1 h1 (hq3.mv h2 (by unfold wX10_stepFrom; omega) (by unfold wX10_stepFrom; omega)) (hR3.mv h2 (by unfold wX10_stepFrom; omega) (by unfold wX10_stepFrom; omega)) bk
      have fr2 := (NX10_writeSteps (v := p5.1) (Ln1 := p5.2.1) (V1 := p5.2.2) e5).1
      have fe : p5.2.2.fI e = V4.fI e := (fr2.1 e (by unfold wX10_writeSteps; omega)).1
      refine mTo.A (Q := fun p => rowIs p.2.1 p.2.2 (e + 2) (nI (fw A m) :: wsL (nxl A B b m) (bfA (nxl A B b m) (fw B m)).2 ((bfA (nxl A B b m) (fw B m)).2 (fw A m) - 1) (fw A m))) ⟨p5, e5, r5⟩ (fun a L6 V6 h6 q' => mTo.ret ?_)
      rw [e5] at h6
      cases h6
      refine ⟨fun _ => by rw [fe, fe4, t1, if_neg (by decide)], fun w => absurd yes w, by rw [fe, fe4, t2], ?_⟩
      unfold rowW
      rw [if_pos yes]
      exact q'
end
