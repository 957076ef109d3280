/-! THE PURE PART, flows: one more is led on. -/
section
/-- the flows' cells: n nodes, m items, f goes by each -/
def flS (V : mV) (n m : Nat) (A B C f : Nat → Nat) : Prop := V.fI 2 8 = nI n ∧ V.fI 2 9 = nI m ∧ ∀ i, i < m → V.rI 21 i = nI (A i) ∧ V.rI 22 i = nI (B i) ∧ V.rI 23 i = nI (C i) ∧ V.rI 24 i = nI (f i)
def flB (n m : Nat) (A B C f : Nat → Nat) : Prop := n ≤ 7 ∧ m ≤ 10 ∧ ∀ i, i < m → A i < n ∧ B i < n ∧ A i ≠ B i ∧ C i ≤ 100 ∧ f i ≤ C i
/-- what is reached, and by which item -/
def rcS (V : mV) (st : Nat) (p : Nat × (Nat → Nat)) : Prop := V.fI 2 10 = nI p.1 ∧ ∀ x, p.1.testBit x = true → x ≠ st → V.rI 25 x = nI (p.2 x)
theorem flS.r {V : mV} {n m : Nat} {A B C f : Nat → Nat} {S : Int32} (h : flS V n m A B C f) : flS (mF V 2 10 S) n m A B C f := by
  obtain ⟨h1, h2, h3⟩ := h
  exact ⟨by rw [mF_no (Or.inr (by decide))]; exact h1, by rw [mF_no (Or.inr (by decide))]; exact h2, h3⟩
theorem flS.v {V : mV} {n m : Nat} {A B C f : Nat → Nat} {x y : Int32} (h : flS V n m A B C f) : flS (mI V 25 x y) n m A B C f := by
  obtain ⟨h1, h2, h3⟩ := h
  refine ⟨h1, h2, fun i hi => ?_⟩
  rw [mI_no (by decide), mI_no (by decide), mI_no (by decide), mI_no (by decide)]
  exact h3 i hi
theorem rc_add {V : mV} {st x t : Nat} {p : Nat × (Nat → Nat)} (h : rcS V st p) (hx : x < 2 ^ 20) : rcS (mI (mF V 2 10 (nI (p.1 ||| 2 ^ x))) 25 (nI x) (nI t)) st (p.1 ||| 2 ^ x, va_up p.2 x t) := by
  obtain ⟨h1, h2⟩ := h
  refine ⟨show (mF V 2 10 (nI (p.1 ||| 2 ^ x))).fI 2 10 = _ from mF_at, fun j hj hjs => ?_⟩
  rw [mI_at (nI_clamp (by omega))]
  by_cases e : j = x
  · subst e
    rw [if_pos rfl]
    show _ = nI (va_up p.2 j t j)
    rw [mUp_eq]
  · rw [if_neg e]
    show V.rI 25 j = nI (va_up p.2 x t j)
    rw [mUp_ne _ _ e]
    refine h2 j ?_ hjs
    have hj : (p.1 ||| 2 ^ x).testBit j = true := hj
    rw [Nat.testBit_or, nb_pow, Bool.or_eq_true, decide_eq_true_eq] at hj
    exact hj.resolve_right (fun z => e z.symm)
theorem T_reachBy {F n m i st : Nat} {A B C f : Nat → Nat} {p : Nat × (Nat → Nat)} {V : mV} (hF : 1 ≤ F) (hS : flS V n m A B C f) (hB : flB n m A B C f) (hi : i < m) (hp : p.1 < 2 ^ n) (hr : rcS V st p) : mTo (mX7_reachBy F (nI i) V) (fun q => flS q.2 n m A B C f ∧ rcS q.2 st (rbS A B C f i p)) := by
  obtain ⟨n7, m10, hb⟩ := hB
  obtain ⟨a1, a2, a3, a4, a5⟩ := hb i hi
  obtain ⟨v1, v2, v3, v4⟩ := hS.2.2 i hi
  have p7 : (2 : Nat) ^ n ≤ 2 ^ 7 := Nat.pow_le_pow_right (by decide) n7
  have cl : (nI i).toNatClampNeg = i := nI_clamp (by omega)
  have back : ¬ (p.1.testBit (A i) = true ∧ p.1.testBit (B i) = false ∧ f i < C i) → mTo (mX7_reachBy_go F F 0 (nI i) (nI (A i)) (nI (B i)) V) (fun q => flS q.2 n m A B C f ∧ rcS q.2 st (rbS A B C f i p)) := fun h1 => by
    obtain ⟨k, rfl⟩ : ∃ k, F = k + 1 := ⟨F - 1, by omega⟩
    rw [mX7_reachBy_go, if_pos rfl]
    unfold mX7_reachBy_b0 rbS
    rw [if_neg h1]
    refine mTo.hs hr.1 rfl (by omega) (by omega) (fun h2 => mTo.ret ?_) (fun h2 => mTo.hs hr.1 rfl (by omega) (by omega) (fun h3 => mTo.ix rfl (by omega) (by omega) ?_) (fun h3 => mTo.ret ?_))
    · rw [if_neg (fun z => by rw [h2] at z; exact absurd z.1 (by decide))]
      exact ⟨hS, hr⟩
    · refine mTo.le (b := 0) (by rw [cl, v4]) rfl (by omega) (by omega) (fun h4 => mTo.ret ?_) (fun h4 => mTo.lt (mTo.ix rfl (by omega) (by omega) (mTo.lt (mTo.ret ?_))))
      · rw [if_neg (fun z => by omega)]
        exact ⟨hS, hr⟩
      · rw [if_pos ⟨h2, h3, h4⟩, hr.1, nb_one (by omega), nb_or, show (2 : Int32) = nI 2 from rfl, nI_mulC, nI_1]
        exact ⟨hS.r.v, rc_add hr (by omega)⟩
    · rw [if_neg (fun z => by rw [h3] at z; exact absurd z.2.1 (by decide))]
      exact ⟨hS, hr⟩
  unfold mX7_reachBy mX7_reachBy_s
  refine mTo.ix rfl (by omega) (by omega) (mTo.lt (mTo.ix rfl (by omega) (by omega) (mTo.lt ?_)))
  rw [show V.rI 21 (nI i).toNatClampNeg = nI (A i) by rw [cl, v1], show V.rI 22 (nI i).toNatClampNeg = nI (B i) by rw [cl, v2]]
  refine mTo.hs hr.1 rfl (by omega) (by omega) (fun h2 => back (fun z => by rw [h2] at z; exact absurd z.1 (by decide))) (fun h2 => mTo.hs hr.1 rfl (by omega) (by omega) (fun h3 => mTo.ix rfl (by omega) (by omega) (mTo.ix rfl (by omega) (by omega) ?_)) (fun h3 => back (fun z => by rw [h3] at z; exact absurd z.2.1 (by decide))))
  refine mTo.le (by rw [cl]; exact v3) (by rw [cl]; exact v4) (by omega) (by omega) (fun h4 => back (fun z => by omega)) (fun h4 => mTo.lt (mTo.ix rfl (by omega) (by omega) (mTo.lt (mTo.ret ?_))))
  unfold rbS
  rw [if_pos ⟨h2, h3, h4⟩, hr.1, nb_one (by omega), nb_or, show (2 : Int32) = nI 2 from rfl, nI_mulC]
  exact ⟨hS.r.v, rc_add hr (by omega)⟩
theorem flS.g {V : mV} {n m i t : Nat} {A B C f : Nat → Nat} (h : flS V n m A B C f) (hi : i < 2 ^ 20) : flS (mI V 24 (nI i) (nI t)) n m A B C (va_up f i t) := by
  obtain ⟨h1, h2, h3⟩ := h
  refine ⟨h1, h2, fun j hj => ?_⟩
  rw [mI_no (by decide), mI_no (by decide), mI_no (by decide), mI_at (nI_clamp (by omega))]
  obtain ⟨a, b, c, e⟩ := h3 j hj
  refine ⟨a, b, c, ?_⟩
  by_cases z : j = i
  · subst z
    rw [if_pos rfl, mUp_eq]
  · rw [if_neg z, mUp_ne _ _ z, e]
/-- the walk back; what it changes -/
theorem T_back_go {F n m least st S : Nat} {A B C f0 via d : Nat → Nat} (hb : flB n m A B C f0) (hd : tD A B C f0 m least st S via d) (hst : st < n) (hS : S < 2 ^ n) : ∀ k' step at_ f (V : mV), n < step + k' → step ≤ n → pI C f0 m st S via d at_ f → flS V n m A B C f → rcS V st (S, via) → mTo (mX7_leadsOn_go F k' 2 (nI st) 0 0 0 (nI at_) (nI step) 0 V) (fun p => p.1 = 1 ∧ flS p.2 n m A B C (pth st via A B (n - step) at_ f)) := by
  obtain ⟨n7, m10, hAB⟩ := hb
  intro k'
  induction k' with
  | zero => intro step at_ f V h1 h2; omega
  | succ k ih =>
    intro step at_ f V h1 h2 hI hF hR
    have ats : at_ < n := by
      rcases Nat.lt_or_ge at_ n with z | z
      · exact z
      · have := hI.1
        rw [nb_big hS z] at this
        exact absurd this (by decide)
    rw [mX7_leadsOn_go, if_neg (by decide), if_neg (by decide), if_pos rfl]
    unfold mX7_leadsOn_b2
    refine mTo.le hF.1 rfl (by omega) (by omega) (fun h => mTo.ret ⟨rfl, ?_⟩) (fun h => mTo.eqI rfl rfl (by omega) (by omega) (fun e => mTo.ret ⟨rfl, ?_⟩) (fun e => ?_))
    · have : n - step = 0 := by omega
      rw [this]
      exact hF
    · obtain ⟨t, ht⟩ : ∃ t, n - step = t + 1 := ⟨n - step - 1, by omega⟩
      rw [ht, pth, if_pos e]
      exact hF
    · obtain ⟨t, ht⟩ : ∃ t, n - step = t + 1 := ⟨n - step - 1, by omega⟩
      have ht2 : n - (step + 1) = t := by omega
      obtain ⟨i, i1, i2, e2, i3⟩ := pI_step hd hI e
      have v25 : V.rI 25 at_ = nI (via at_) := hR.2 at_ hI.1 e
      have vb : via at_ < 2 ^ 20 := by omega
      have cat : (nI at_).toNatClampNeg = at_ := nI_clamp (by omega)
      obtain ⟨x1, x2, x3, x4⟩ := hF.2.2 _ i2
      obtain ⟨y1, y2, y3, y4, _⟩ := hAB i i2
      have fC := hI.2.1 i i2
      have ci : (nI i).toNatClampNeg = i := nI_clamp (by omega)
      have main : mTo (mX7_goBack F (nI at_) V) (fun q => (via at_ % 2 = 0 → q.1 = nI (A i) ∧ flS q.2 n m A B C (va_up f i (f i + 1)) ∧ rcS q.2 st (S, via)) ∧ (via at_ % 2 = 1 → 0 < f i → q.1 = nI (B i) ∧ flS q.2 n m A B C (va_up f i (f i - 1)) ∧ rcS q.2 st (S, via))) := by
        unfold mX7_goBack
        refine mTo.ix rfl (by omega) (by omega) (mTo.lt (mTo.ix rfl (by omega) (by omega) ?_))
        rw [cat, v25, show (2 : Int32) = nI 2 from rfl, pk_rem (by omega) (by decide) (by decide), pk_div (by omega) (by decide) (by decide), e2]
        refine mTo.eqI (b := 0) rfl rfl (by omega) (by omega) (fun z => mTo.ix rfl (by omega) (by omega) (mTo.ix rfl (by omega) (by omega) (mTo.lt (mTo.ix rfl (by omega) (by omega) (mTo.ret ⟨fun _ => ?_, fun y => by omega⟩))))) (fun z => mTo.ix rfl (by omega) (by omega) (mTo.ix rfl (by omega) (by omega) (mTo.lt (mTo.ix rfl (by omega) (by omega) (mTo.ret ⟨fun y => by omega, fun _ fp => ?_⟩)))))
        · rw [ci, x4, nI_1]
          exact ⟨by rw [mI_no (by decide)]; exact x1, hF.g (by omega), hR.1, fun x hx hne => by rw [mI_no (by decide)]; exact hR.2 x hx hne⟩
        · obtain ⟨g, hg⟩ : ∃ g, f i = g + 1 := ⟨f i - 1, by omega⟩
          rw [ci, x4, hg, nI_pred]
          exact ⟨by rw [mI_no (by decide)]; exact x2, hF.g (by omega), hR.1, fun x hx hne => by rw [mI_no (by decide)]; exact hR.2 x hx hne⟩
      refine mTo.W main (fun q1 V1 _ q => mTo.lt ?_)
      rw [ht, pth, if_neg e, e2, nI_1]
      rcases i3 with ⟨c1, c2, c3, c4⟩ | ⟨c1, c2, c3, c4, c5⟩
      · obtain ⟨g1, g2, g3⟩ := q.1 c1
        have g1 : q1 = nI (A i) := g1
        have r := ih (step + 1) (A i) _ V1 (by omega) (by omega) c4 g2 g3
        rw [ht2] at r
        rw [if_pos c1, g1]
        exact r
      · obtain ⟨g1, g2, g3⟩ := q.2 c1 c4
        have g1 : q1 = nI (B i) := g1
        have r := ih (step + 1) (B i) _ V1 (by omega) (by omega) c5 g2 g3
        rw [ht2] at r
        rw [if_neg (by omega), g1]
        exact r
/-- one more from start to end by the items from least on: whether it can be, what goes then, what was reached -/
def ldB (A B C f : Nat → Nat) (n m st en least : Nat) : Bool := (rnS A B C f st least m n).1.testBit en
def ldF (A B C f : Nat → Nat) (n m st en least : Nat) : Nat → Nat := if ldB A B C f n m st en least = true then pth st (rnS A B C f st least m n).2 A B n en f else f
theorem T_leadsOn_go {F n m st en least : Nat} {A B C f : Nat → Nat} (hF : 64 ≤ F) (hb : flB n m A B C f) (hl : least ≤ m) (hst : st < n) (hen : en < n) : ∀ k', (∀ r gr (V : mV), (n - r) * 20 + n + 3 ≤ k' → r ≤ n → flS V n m A B C f → rcS V st (rnS A B C f st least m r) → (gr = (0 : Int32) → ∀ t, rnS A B C f st least m (r + t) = rnS A B C f st least m r) → mTo (mX7_leadsOn_go F k' 0 (nI st) (nI en) (nI least) gr (nI r) 0 0 V) (fun p => (p.1 ≠ 0 ↔ ldB A B C f n m st en least = true) ∧ (ldB A B C f n m st en least = false → p.2.fI 2 10 = nI (rnS A B C f st least m n).1) ∧ flS p.2 n m A B C (ldF A B C f n m st en least))) ∧ (∀ r j (V : mV), (n - r - 1) * 20 + n + (m - j) + 5 ≤ k' → r < n → least ≤ j → j ≤ m → flS V n m A B C f → rcS V st (rdS A B C f least (j - least) (rnS A B C f st least m r)) → mTo (mX7_leadsOn_go F k' 1 (nI st) (nI en) (nI least) 0 (nI r) (nI (rnS A B C f st least m r).1) (nI j) V) (fun p => (p.1 ≠ 0 ↔ ldB A B C f n m st en least = true) ∧ (ldB A B C f n m st en least = false → p.2.fI 2 10 = nI (rnS A B C f st least m n).1) ∧ flS p.2 n m A B C (ldF A B C f n m st en least))) := by
  have hAB2 : ∀ i, i < m → A i < n ∧ B i < n := fun i hi => ⟨(hb.2.2 i hi).1, (hb.2.2 i hi).2.1⟩
  have n7 := hb.1
  have m10 := hb.2.1
  have p7 : (2 : Nat) ^ n ≤ 2 ^ 7 := Nat.pow_le_pow_right (by decide) n7
  have rl : ∀ r, (rnS A B C f st least m r).1 < 2 ^ n := fun r => rnS_lt hl hAB2 hst r
  have fin : ∀ (k : Nat) (V : mV), n < k → flS V n m A B C f → rcS V st (rnS A B C f st least m n) → mTo (mBN (mX11_has F (V.fI 2 10) (nI en)) fun v2 => if v2 = 0 then some ((0 : Int32), V) else mX7_leadsOn_go F k 2 (nI st) 0 0 0 (nI en) 0 0 V) (fun p => (p.1 ≠ 0 ↔ ldB A B C f n m st en least = true) ∧ (ldB A B C f n m st en least = false → p.2.fI 2 10 = nI (rnS A B C f st least m n).1) ∧ flS p.2 n m A B C (ldF A B C f n m st en least)) := fun k V hk hS hR => by
    have rn := rl n
    refine mTo.hs hR.1 rfl (by omega) (by omega) (fun h0 => mTo.ret ⟨⟨fun z => absurd rfl z, fun z => ?_⟩, fun _ => hR.1, ?_⟩) (fun h1 => ?_)
    · unfold ldB at z
      rw [h0] at z
      exact absurd z (by decide)
    · unfold ldF ldB
      rw [h0, if_neg (by decide)]
      exact hS
    · obtain ⟨t1, d, t2, t3⟩ := tr_rn (A := A) (B := B) (C := C) (f := f) hl hAB2 hst n
      have g := T_back_go (F := F) (C := C) hb (show tD A B C f m least st (rnS A B C f st least m n).1 (rnS A B C f st least m n).2 d from t3) hst rn k 0 en f V (by omega) (by omega) ⟨h1, fun i hi => (hb.2.2 i hi).2.2.2.2, fun w _ _ _ => rfl⟩ hS hR
      refine g.mono (fun p hp => ⟨⟨fun _ => h1, fun _ => by rw [hp.1]; decide⟩, fun z => ?_, ?_⟩)
      · unfold ldB at z
        rw [h1] at z
        exact absurd z (by decide)
      · unfold ldF ldB
        rw [if_pos h1]
        exact hp.2
  intro k'
  induction k' with
  | zero => exact ⟨fun r gr V h => by omega, fun r j V h => by omega⟩
  | succ k ih =>
    obtain ⟨ih0, ih1⟩ := ih
    refine ⟨fun r gr V h1 h2 hS hR hg => ?_, fun r j V h1 h2 h3 h4 hS hR => ?_⟩
    · rw [mX7_leadsOn_go, if_pos rfl]
      unfold mX7_leadsOn_b0
      refine mTo.le hS.1 rfl (by omega) (by omega) (fun h => ?_) (fun h => mTo.ite (fun e => ?_) (fun e => mTo.lt ?_))
      · have : r = n := by omega
        subst this
        exact fin k V (by omega) hS hR
      · have := hg e (n - r)
        rw [show r + (n - r) = n by omega] at this
        rw [← this] at hR
        exact fin k V (by omega) hS hR
      · rw [hR.1]
        exact ih1 r least V (by omega) h (Nat.le_refl _) hl hS (by rw [Nat.sub_self]; exact hR)
    · rw [mX7_leadsOn_go, if_neg (by decide), if_pos rfl]
      unfold mX7_leadsOn_b1
      refine mTo.le hS.2.1 rfl (by omega) (by omega) (fun h => ?_) (fun h => ?_)
      · have : j = m := by omega
        subst this
        have hR : rcS V st (rnS A B C f st least j (r + 1)) := hR
        have b1 := rl r
        have b2 := rl (r + 1)
        refine mTo.eqI rfl hR.1 (by omega) (by omega) (fun e => mTo.lt ?_) (fun e => mTo.lt ?_)
        · rw [nI_1]
          refine ih0 (r + 1) 0 V (by omega) (by omega) hS hR (fun _ t => ?_)
          have s1 := rnS_stop e.symm (t + 1)
          have s2 := rnS_stop e.symm 1
          rw [show r + (t + 1) = r + 1 + t by omega] at s1
          rw [s1, s2]
        · rw [nI_1]
          exact ih0 (r + 1) 1 V (by omega) (by omega) hS hR (fun z => absurd (show (1 : Int32) = 0 from z) (by decide))
      · have lt : (rdS A B C f least (j - least) (rnS A B C f st least m r)).1 < 2 ^ n := by
          rw [rdS_1]
          exact rd1_lt hAB2 (rl r) _ (by omega)
        refine mTo.W (T_reachBy (by omega) hS hb h lt hR) (fun a V1 _ q => mTo.lt ?_)
        rw [nI_1]
        refine ih1 r (j + 1) V1 (by omega) h2 (by omega) (by omega) q.1 ?_
        rw [show j + 1 - least = j - least + 1 by omega, rdS, show least + (j - least) = j by omega]
        exact q.2
theorem T_leadsOn {F n m st en least : Nat} {A B C f : Nat → Nat} {V : mV} (hF : 2 ^ 10 ≤ F) (hb : flB n m A B C f) (hl : least ≤ m) (hst : st < n) (hen : en < n) (hS : flS V n m A B C f) : mTo (mX7_leadsOn F (nI st) (nI en) (nI least) V) (fun p => (p.1 ≠ 0 ↔ ldB A B C f n m st en least = true) ∧ (ldB A B C f n m st en least = false → p.2.fI 2 10 = nI (rnS A B C f st least m n).1) ∧ flS p.2 n m A B C (ldF A B C f n m st en least)) := by
  have n7 := hb.1
  unfold mX7_leadsOn mX7_leadsOn_s
  refine mTo.lt ?_
  rw [nb_one (by omega)]
  refine (T_leadsOn_go (by omega) hb hl hst hen F).1 0 1 _ (by omega) (by omega) hS.r ⟨mF_at, fun x hx hne => ?_⟩ (fun z => absurd (show (1 : Int32) = 0 from z) (by decide))
  have hx : (2 ^ st).testBit x = true := hx
  rw [nb_pow, decide_eq_true_eq] at hx
  exact absurd hx.symm hne
/-- what is led on then: the sums, the bounds -/
theorem ld_ok {A B C f : Nat → Nat} {n m st en least : Nat} (hb : flB n m A B C f) (hl : least ≤ m) (hst : st < n) (h : ldB A B C f n m st en least = true) : flB n m A B C (ldF A B C f n m st en least) ∧ (∀ i, i < least → ldF A B C f n m st en least i = f i) ∧ ∀ v, exs A B (fun j => (ldF A B C f n m st en least j : Int)) v m = exs A B (fun j => (f j : Int)) v m + nx v st - nx v en := by
  have hAB2 : ∀ i, i < m → A i < n ∧ B i < n := fun i hi => ⟨(hb.2.2 i hi).1, (hb.2.2 i hi).2.1⟩
  unfold ldF
  rw [if_pos h]
  unfold ldB at h
  obtain ⟨t1, d, t2, t3⟩ := tr_rn (A := A) (B := B) (C := C) (f := f) hl hAB2 hst n
  have dn : d en < n := Nat.lt_of_lt_of_le (t2 en h) (cnt_n n)
  obtain ⟨a, b, c⟩ := pth_ok (en := en) (show tD A B C f m least st (rnS A B C f st least m n).1 (rnS A B C f st least m n).2 d from t3) n en f dn ⟨h, fun i hi => (hb.2.2 i hi).2.2.2.2, fun w _ _ _ => rfl⟩ (fun i _ => rfl) (fun v => by omega)
  exact ⟨⟨hb.1, hb.2.1, fun i hi => ⟨(hb.2.2 i hi).1, (hb.2.2 i hi).2.1, (hb.2.2 i hi).2.2.1, (hb.2.2 i hi).2.2.2.1, a i hi⟩⟩, b, c⟩
end
