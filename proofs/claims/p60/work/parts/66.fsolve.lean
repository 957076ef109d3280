/-! THE PURE PART, flows: the lowering; the solver, the whole. -/
section
/-- the numbers below n that X has, as a row -/
def filL (X : Nat → Bool) : Nat → List Int32
  | 0 => []
  | j + 1 => if X j = true then filL X j ++ [nI j] else filL X j
theorem filL_in {X : Nat → Bool} : ∀ j, (∀ i, i < (filL X j).length → ∃ v, v < j ∧ X v = true ∧ (filL X j).getD i 0 = nI v) ∧ (∀ v, v < j → X v = true → ∃ i, i < (filL X j).length ∧ (filL X j).getD i 0 = nI v) ∧ (filL X j).length ≤ j
  | 0 => ⟨fun i h => absurd h (Nat.not_lt_zero _), fun v h => absurd h (Nat.not_lt_zero _), Nat.le_refl _⟩
  | j + 1 => by
    obtain ⟨a, b, c⟩ := filL_in (X := X) j
    rw [filL]
    by_cases e : X j = true
    · rw [if_pos e]
      refine ⟨fun i hi => ?_, fun v hv hA => ?_, ?_⟩
      · rw [List.length_append] at hi
        have hi : i < (filL X j).length + 1 := hi
        rw [getD_snoc]
        by_cases z : i < (filL X j).length
        · rw [if_pos z]
          obtain ⟨v, v1, v2⟩ := a i z
          exact ⟨v, by omega, v2⟩
        · rw [if_neg z, if_pos (by omega)]
          exact ⟨j, by omega, e, rfl⟩
      · rw [List.length_append]
        by_cases z : v = j
        · refine ⟨(filL X j).length, Nat.lt_succ_self _, ?_⟩
          rw [getD_snoc, if_neg (Nat.lt_irrefl _), if_pos rfl, z]
        · obtain ⟨i, i1, i2⟩ := b v (by omega) hA
          refine ⟨i, Nat.lt_succ_of_lt i1, ?_⟩
          rw [getD_snoc, if_pos i1, i2]
      · rw [List.length_append]
        show _ + 1 ≤ _
        omega
    · rw [if_neg e]
      refine ⟨fun i hi => ?_, fun v hv hA => ?_, by omega⟩
      · obtain ⟨v, v1, v2⟩ := a i hi
        exact ⟨v, by omega, v2⟩
      · by_cases z : v = j
        · rw [z] at hA
          exact absurd hA e
        · exact b v (by omega) hA
theorem filL_rise {X : Nat → Bool} : ∀ j, j < 2 ^ 20 → ∀ i, i + 1 < (filL X j).length → (filL X j).getD i 0 < (filL X j).getD (i + 1) 0
  | 0, _, i, h => absurd h (Nat.not_lt_zero _)
  | j + 1, hj, i, h => by
    have ih := filL_rise (X := X) j (by omega)
    obtain ⟨a, _⟩ := filL_in (X := X) j
    rw [filL] at h ⊢
    by_cases e : X j = true
    · rw [if_pos e] at h ⊢
      rw [List.length_append] at h
      have h : i + 1 < (filL X j).length + 1 := h
      rw [getD_snoc, getD_snoc, if_pos (show i < (filL X j).length by omega)]
      by_cases z : i + 1 < (filL X j).length
      · rw [if_pos z]
        exact ih i z
      · rw [if_neg z, if_pos (by omega)]
        obtain ⟨v, v1, _, v2⟩ := a i (by omega)
        rw [v2]
        exact (nI_ltI (by omega) (by omega)).mpr v1
    · rw [if_neg e] at h ⊢
      exact ih i h
/-- the first numbers of f, as a row -/
def rwL (f : Nat → Nat) : Nat → List Int32
  | 0 => []
  | j + 1 => rwL f j ++ [nI (f j)]
theorem rwL_len {f : Nat → Nat} : ∀ n, (rwL f n).length = n
  | 0 => rfl
  | n + 1 => by
    rw [rwL, List.length_append, rwL_len n]
    rfl
theorem rwL_at {f : Nat → Nat} {i : Nat} : ∀ n, i < n → (rwL f n).getD i 0 = nI (f i)
  | 0, h => absurd h (Nat.not_lt_zero _)
  | n + 1, h => by
    rw [rwL, getD_snoc, rwL_len]
    by_cases e : i < n
    · rw [if_pos e]
      exact rwL_at n e
    · have : i = n := by omega
      rw [if_neg e, if_pos this, this]
def lwI (A B C : Nat → Nat) (n m i : Nat) : Nat → (Nat → Nat) → (Nat → Nat)
  | 0, f => f
  | t + 1, f => if ldB A B C f n m (A i) (B i) (i + 1) = true then lwI A B C n m i t (va_up (ldF A B C f n m (A i) (B i) (i + 1)) i (f i - 1)) else f
def lwA (A B C : Nat → Nat) (n m : Nat) (f : Nat → Nat) : Nat → (Nat → Nat)
  | 0 => f
  | k + 1 => lwI A B C n m k (lwA A B C n m f k k) (lwA A B C n m f k)
theorem lw_step {A B C f : Nat → Nat} {n m i : Nat} (hb : flB n m A B C f) (hi : i < m) (h : ldB A B C f n m (A i) (B i) (i + 1) = true) (fi : 0 < f i) : flB n m A B C (va_up (ldF A B C f n m (A i) (B i) (i + 1)) i (f i - 1)) ∧ ∀ v, exs A B (fun j => ((va_up (ldF A B C f n m (A i) (B i) (i + 1)) i (f i - 1) j : Nat) : Int)) v m = exs A B (fun j => (f j : Int)) v m := by
  obtain ⟨l1, l2, l3⟩ := ld_ok hb (by omega) (hb.2.2 i hi).1 h
  have li := l2 i (Nat.lt_succ_self i)
  refine ⟨⟨hb.1, hb.2.1, fun j hj => ?_⟩, fun v => ?_⟩
  · obtain ⟨a1, a2, a3, a4, a5⟩ := l1.2.2 j hj
    refine ⟨a1, a2, a3, a4, ?_⟩
    by_cases z : j = i
    · subst z
      rw [mUp_eq]
      omega
    · rw [mUp_ne _ _ z]
      exact a5
  · have e := exs_up (A := A) (B := B) (f := ldF A B C f n m (A i) (B i) (i + 1)) (i := i) (v := v) (t := f i - 1) m
    rw [e, if_pos hi, l3 v, li]
    have t : ((f i - 1 : Nat) : Int) - f i = -1 := by omega
    rw [t, nx_c (A i) v, nx_c (B i) v]
    omega
theorem lwI_ok {A B C : Nat → Nat} {n m i : Nat} (hi : i < m) : ∀ t f, flB n m A B C f → t ≤ f i → flB n m A B C (lwI A B C n m i t f) ∧ ∀ v, exs A B (fun j => (lwI A B C n m i t f j : Int)) v m = exs A B (fun j => (f j : Int)) v m
  | 0, f, h, _ => ⟨h, fun _ => rfl⟩
  | t + 1, f, h, ht => by
    rw [lwI]
    by_cases e : ldB A B C f n m (A i) (B i) (i + 1) = true
    · rw [if_pos e]
      obtain ⟨a, b⟩ := lw_step h hi e (by omega)
      obtain ⟨c, d⟩ := lwI_ok hi t _ a (by rw [mUp_eq]; omega)
      exact ⟨c, fun v => (d v).trans (b v)⟩
    · rw [if_neg e]
      exact ⟨h, fun _ => rfl⟩
theorem lwA_ok {A B C f : Nat → Nat} {n m : Nat} (h : flB n m A B C f) : ∀ k, k ≤ m → flB n m A B C (lwA A B C n m f k) ∧ ∀ v, exs A B (fun j => (lwA A B C n m f k j : Int)) v m = exs A B (fun j => (f j : Int)) v m
  | 0, _ => ⟨h, fun _ => rfl⟩
  | k + 1, hk => by
    obtain ⟨a, b⟩ := lwA_ok h k (by omega)
    obtain ⟨c, d⟩ := lwI_ok (A := A) (B := B) (C := C) (n := n) (show k < m by omega) (lwA A B C n m f k k) _ a (Nat.le_refl _)
    exact ⟨c, fun v => (d v).trans (b v)⟩
theorem T_lowerAll_go {F n m : Nat} {A B C f0 : Nat → Nat} (hF : 2 ^ 10 ≤ F) (hb0 : flB n m A B C f0) : ∀ k', (∀ k (V : mV), (m - k) * 200 + 1 ≤ k' → k ≤ m → flS V n m A B C (lwA A B C n m f0 k) → mTo (mX7_lowerAll_go F k' 0 (nI k) 0 0 V) (fun p => flS p.2 n m A B C (lwA A B C n m f0 m))) ∧ (∀ k M u f (V : mV), (m - k - 1) * 200 + (M - u) + 3 ≤ k' → k < m → M ≤ 100 → u ≤ M → M - u ≤ f k → flB n m A B C f → flS V n m A B C f → lwI A B C n m k (M - u) f = lwA A B C n m f0 (k + 1) → mTo (mX7_lowerAll_go F k' 1 (nI k) (nI M) (nI u) V) (fun p => flS p.2 n m A B C (lwA A B C n m f0 m))) := by
  have m10 := hb0.2.1
  intro k'
  induction k' with
  | zero => exact ⟨fun k V h => by omega, fun k M u f V h => by omega⟩
  | succ x ih =>
    obtain ⟨ih0, ih1⟩ := ih
    refine ⟨fun k V h1 h2 hS => ?_, fun k M u f V h1 h2 h3 h4 h5 hb hS hE => ?_⟩
    · rw [mX7_lowerAll_go, if_pos rfl]
      unfold mX7_lowerAll_b0
      refine mTo.le hS.2.1 rfl (by omega) (by omega) (fun h => mTo.ret ?_) (fun h => mTo.ix rfl (by omega) (by omega) (mTo.lt ?_))
      · have : k = m := by omega
        subst this
        exact hS
      · obtain ⟨a, _⟩ := lwA_ok hb0 k h2
        obtain ⟨_, _, _, a4, a5⟩ := a.2.2 k h
        rw [nI_clamp (by omega), (hS.2.2 k h).2.2.2]
        exact ih1 k (lwA A B C n m f0 k k) 0 _ V (by omega) h (by omega) (Nat.zero_le _) (by omega) a hS rfl
    · rw [mX7_lowerAll_go, if_neg (by decide), if_pos rfl]
      unfold mX7_lowerAll_b1
      obtain ⟨b1, b2, b3, b4, b5⟩ := hb.2.2 k h2
      have n7 := hb.1
      have cl : (nI k).toNatClampNeg = k := nI_clamp (by omega)
      refine mTo.le rfl rfl (by omega) (by omega) (fun h => mTo.lt ?_) (fun h => mTo.ix rfl (by omega) (by omega) (mTo.ix rfl (by omega) (by omega) ?_))
      · have : M - u = 0 := by omega
        rw [this] at hE
        have hE : f = lwA A B C n m f0 (k + 1) := hE
        rw [hE] at hS
        rw [nI_1]
        exact ih0 (k + 1) V (by omega) (by omega) hS
      · obtain ⟨t, ht⟩ : ∃ t, M - u = t + 1 := ⟨M - u - 1, by omega⟩
        have ht2 : M - (u + 1) = t := by omega
        rw [ht, lwI] at hE
        rw [show V.rI 21 (nI k).toNatClampNeg = nI (A k) by rw [cl, (hS.2.2 k h2).1], show V.rI 22 (nI k).toNatClampNeg = nI (B k) by rw [cl, (hS.2.2 k h2).2.1], nI_1]
        refine mTo.W (T_leadsOn (F := F) hF hb (show k + 1 ≤ m by omega) b1 b2 hS) (fun a V1 _ q => ?_)
        obtain ⟨q1, q2, q3⟩ := q
        have q1 : a ≠ 0 ↔ ldB A B C f n m (A k) (B k) (k + 1) = true := q1
        have q3 : flS V1 n m A B C (ldF A B C f n m (A k) (B k) (k + 1)) := q3
        refine mTo.ite (fun e => mTo.lt ?_) (fun e => mTo.ix rfl (by omega) (by omega) (mTo.ix rfl (by omega) (by omega) (mTo.lt (mTo.lt ?_))))
        · have e1 : ¬ ldB A B C f n m (A k) (B k) (k + 1) = true := fun z => q1.mpr z e
          rw [if_neg e1] at hE
          unfold ldF at q3
          rw [if_neg e1, hE] at q3
          exact ih0 (k + 1) V1 (by omega) (by omega) q3
        · have e1 := q1.mp e
          rw [if_pos e1] at hE
          obtain ⟨c1, _⟩ := lw_step hb h2 e1 (by omega)
          obtain ⟨l1, l2, l3⟩ := ld_ok hb (by omega) b1 e1
          have lk := l2 k (Nat.lt_succ_self k)
          have v24 : V1.rI 24 (nI k).toNatClampNeg = nI (f k) := by rw [cl, (q3.2.2 k h2).2.2.2, lk]
          obtain ⟨g, hg⟩ : ∃ g, f k = g + 1 := ⟨f k - 1, by omega⟩
          rw [nI_1, v24, hg, nI_pred]
          rw [hg] at hE c1
          have fin := ih1 k M (u + 1) (va_up (ldF A B C f n m (A k) (B k) (k + 1)) k g) (mI V1 24 (nI k) (nI g)) (by omega) h2 h3 (by omega) (by rw [mUp_eq]; omega) c1 (q3.g (by omega)) (by rw [ht2]; exact hE)
          exact fin
theorem T_tell {F e : Nat} {x t : Int32} {V : mV} : mTo (mX3_tell F e x t V) (fun p => p.2.fI e 11 = (if x = 0 then (110 : Int32) else 121) ∧ p.2.fI e 12 = t ∧ (∀ k, k ≠ 11 → k ≠ 12 → p.2.fI e k = V.fI e k) ∧ p.2.rI = V.rI ∧ p.2.rJ = V.rJ ∧ ∀ i, i ≠ e → p.2.fI i = V.fI i) := by
  unfold mX3_tell
  refine mTo.ite (fun h => ?_) (fun h => ?_)
  · rw [if_neg (by decide)]
    refine mTo.lt (mTo.lt (mTo.ret ⟨?_, mF_at, fun k k1 k2 => ?_, rfl, rfl, fun i hi => ?_⟩))
    · rw [mF_no (Or.inr (by decide)), mF_at, if_pos h]
    · rw [mF_no (Or.inr k2), mF_no (Or.inr k1)]
    · funext k
      rw [mF_no (Or.inl hi), mF_no (Or.inl hi)]
  · rw [if_neg (by decide)]
    refine mTo.lt (mTo.lt (mTo.ret ⟨?_, mF_at, fun k k1 k2 => ?_, rfl, rfl, fun i hi => ?_⟩))
    · rw [mF_no (Or.inr (by decide)), mF_at, if_neg h]
    · rw [mF_no (Or.inr k2), mF_no (Or.inr k1)]
    · funext k
      rw [mF_no (Or.inl hi), mF_no (Or.inl hi)]
/-- the kept row of flows -/
def rowF (A B C : Nat → Nat) (n m b : Nat) : List Int32 := if b ≤ gr A B C n m then rwL (lwA A B C n m (fK A B C n m b) m) m else filL (fun v => (rcK A B C n m).testBit v) n
theorem T_sF2 {F e n S : Nat} (hk : mK (e + 2) = 9) (he : 256 ≤ e) (hn : n ≤ 7) (hS : S < 2 ^ n) : ∀ k' j Ln (V : mV), n < j + k' → j ≤ n → V.fI 2 8 = nI n → V.fI 2 10 = nI S → rowIs Ln V (e + 2) (filL (fun v => S.testBit v) j) → mTo (mX7_solveFlows_go F k' 2 Ln e (nI j) V) (fun p => rowIs p.2.1 p.2.2 (e + 2) (filL (fun v => S.testBit v) n)) := by
  have p7 : (2 : Nat) ^ n ≤ 2 ^ 7 := Nat.pow_le_pow_right (by decide) hn
  intro k'
  induction k' with
  | zero => intro j Ln V h1 h2; omega
  | succ k ih =>
    intro j Ln V h1 h2 h3 h4 hR
    rw [mX7_solveFlows_go, if_neg (by decide), if_neg (by decide), if_pos rfl]
    unfold mX7_solveFlows_b2
    refine mTo.le h3 rfl (by omega) (by omega) (fun h => mTo.ret ?_) (fun h => mTo.hs h4 rfl (by omega) (by omega) (fun hb => mTo.lt ?_) (fun hb => ?_))
    · have : j = n := by omega
      subst this
      exact hR
    · have g := ih (j + 1)
      rw [filL, if_neg (by show ¬ S.testBit j = true; rw [hb]; decide)] at g
      rw [nI_1]
      exact g Ln V (by omega) (by omega) h3 h4 hR
    · have g := ih (j + 1)
      rw [filL, if_pos (show S.testBit j = true from hb)] at g
      have := (filL_in (X := fun v => S.testBit v) j).2.2
      refine mTo.A (T_radd hk hR (by omega)) (fun a L1 V1 _ q => mTo.lt ?_)
      obtain ⟨q1, q2, _⟩ := q
      have q2 : mAv (wX9_add (e + 2)) V V1 := q2
      have f2 : V1.fI 2 = V.fI 2 := (q2.1 2 (by unfold wX9_add; omega)).1
      rw [nI_1]
      exact g L1 V1 (by omega) (by omega) (by rw [f2]; exact h3) (by rw [f2]; exact h4) q1
theorem T_sF1 {F e n m : Nat} {A B C f : Nat → Nat} (hk : mK (e + 2) = 9) (he : 256 ≤ e) (hm : m ≤ 10) : ∀ k' j Ln (V : mV), m < j + k' → j ≤ m → flS V n m A B C f → rowIs Ln V (e + 2) (rwL f j) → mTo (mX7_solveFlows_go F k' 1 Ln e (nI j) V) (fun p => rowIs p.2.1 p.2.2 (e + 2) (rwL f m)) := by
  intro k'
  induction k' with
  | zero => intro j Ln V h1 h2; omega
  | succ k ih =>
    intro j Ln V h1 h2 hS hR
    rw [mX7_solveFlows_go, if_neg (by decide), if_pos rfl]
    unfold mX7_solveFlows_b1
    refine mTo.le hS.2.1 rfl (by omega) (by omega) (fun h => mTo.ret ?_) (fun h => mTo.ix rfl (by omega) (by omega) ?_)
    · have : j = m := by omega
      subst this
      exact hR
    · rw [nI_clamp (by omega), (hS.2.2 j h).2.2.2]
      refine mTo.A (T_radd hk hR (by rw [rwL_len]; omega)) (fun a L1 V1 _ q => mTo.lt ?_)
      obtain ⟨q1, q2, _⟩ := q
      have q2 : mAv (wX9_add (e + 2)) V V1 := q2
      have f2 : V1.fI 2 = V.fI 2 := (q2.1 2 (by unfold wX9_add; omega)).1
      have fr : ∀ a, 21 ≤ a → a ≤ 24 → V1.rI a = V.rI a := fun a a1 a2 => (q2.1 a (by unfold wX9_add; omega)).2.2.1
      rw [nI_1]
      refine ih (j + 1) L1 V1 (by omega) (by omega) ⟨by rw [f2]; exact hS.1, by rw [f2]; exact hS.2.1, fun i hi => ?_⟩ q1
      rw [fr 21 (by omega) (by omega), fr 22 (by omega) (by omega), fr 23 (by omega) (by omega), fr 24 (by omega) (by omega)]
      exact hS.2.2 i hi
theorem T_sF0 {F e y m b : Nat} {A B C : Nat → Nat} (hF : 2 ^ 16 ≤ F) (hk : mK (e + 2) = 9) (he : 256 ≤ e) (hb0 : flB (y + 2) m A B C (fun _ => 0)) (hg : ∀ j, j < b → okK A B C (y + 2) m j = true) (hb : b ≤ 60) : ∀ k' u Ln (V : mV), b + m + 5 < u + k' → u ≤ b → V.fI e 8 = nI b → flS V (y + 2) m A B C (fK A B C (y + 2) m u) → rowIs Ln V (e + 2) [] → mTo (mX7_solveFlows_go F k' 0 Ln e (nI u) V) (fun p => rowIs p.2.1 p.2.2 (e + 2) (rwL (lwA A B C (y + 2) m (fK A B C (y + 2) m b) m) m)) := by
  have m10 := hb0.2.1
  intro k'
  induction k' with
  | zero => intro u Ln V h1 h2; omega
  | succ k ih =>
    intro u Ln V h1 h2 h8 hS hR
    have hbu := (fK_ok hb0 u (fun j hj => hg j (by omega))).1
    rw [mX7_solveFlows_go, if_pos rfl]
    unfold mX7_solveFlows_b0
    refine mTo.le h8 rfl (by omega) (by omega) (fun h => ?_) (fun h => ?_)
    · have : u = b := by omega
      subst this
      obtain ⟨p, e1, q⟩ := (T_lowerAll_go (F := F) (by omega) hbu F).1 0 V (by omega) (Nat.zero_le _) hS
      have e1 : mX7_lowerAll F V = some p := e1
      have fr := NX7_lowerAll (v := p.1) (V1 := p.2) e1
      refine mTo.W (Q := fun p => flS p.2 (y + 2) m A B C (lwA A B C (y + 2) m (fK A B C (y + 2) m u) m)) ⟨p, e1, q⟩ (fun a V1 h3 q => ?_)
      rw [e1] at h3
      cases h3
      exact T_sF1 hk he m10 k 0 Ln V1 (by omega) (Nat.zero_le _) q (hR.mv fr (by unfold wX7_lowerAll; omega) (by unfold wX7_lowerAll; omega))
    · have en : V.fI 2 8 - 1 = nI (y + 1) := by rw [hS.1, nI_pred]
      rw [en]
      obtain ⟨p, e1, q⟩ := T_leadsOn (F := F) (st := 0) (en := y + 1) (least := 0) (by omega) hbu (Nat.zero_le m) (by omega) (by omega) hS
      have e1 : mX7_leadsOn F 0 (nI (y + 1)) 0 V = some p := e1
      have fr := NX7_leadsOn (v := p.1) (V1 := p.2) e1
      refine mTo.W (Q := fun p => flS p.2 (y + 2) m A B C (fK A B C (y + 2) m (u + 1))) ⟨p, e1, q.2.2⟩ (fun a V1 h3 q' => mTo.lt ?_)
      rw [e1] at h3
      cases h3
      rw [nI_1]
      exact ih (u + 1) Ln V1 (by omega) (by omega) (by rw [(fr.1 e (by unfold wX7_leadsOn; omega)).1]; exact h8) q' (hR.mv fr (by unfold wX7_leadsOn; omega) (by unfold wX7_leadsOn; omega))
theorem T_solveFlows {F e y m b : Nat} {Ln : Nat → Nat} {A B C : Nat → Nat} {d : Nat → Int32} {V : mV} (hF : 2 ^ 22 ≤ F) (he : 256 ≤ e) (he2 : e < 1024) (hk : mK (e + 2) = 9) (hy : y ≤ 5) (h10 : m ≤ 10) (hb : b ≤ 60) (hq : enQ V e (y + 2) m (nI b) d) (hr : rowIs Ln V (e + 2) []) (hd : ∀ i, i < m → d (5 * i) = nI (A i) ∧ d (5 * i + 1) = nI (B i) ∧ d (5 * i + 2) = nI (C i) ∧ A i < y + 2 ∧ B i < y + 2 ∧ A i ≠ B i ∧ C i ≤ 6) : mTo (mX7_solveFlows F Ln e V) (fun p => p.2.2.fI e 11 = (if b ≤ gr A B C (y + 2) m then (121 : Int32) else 110) ∧ p.2.2.fI e 12 = nI (gr A B C (y + 2) m) ∧ rowIs p.2.1 p.2.2 (e + 2) (rowF A B C (y + 2) m b)) := by
  have hb0 : flB (y + 2) m A B C (fun _ => 0) := ⟨by omega, h10, fun i hi => ⟨(hd i hi).2.2.2.1, (hd i hi).2.2.2.2.1, (hd i hi).2.2.2.2.2.1, by have := (hd i hi).2.2.2.2.2.2; omega, Nat.zero_le _⟩⟩
  have hC : ∀ i, i < m → C i ≤ 6 := fun i hi => (hd i hi).2.2.2.2.2.2
  obtain ⟨g1, g2, g3⟩ := gr_spec hb0 hC
  obtain ⟨c1, c2, c3, c4⟩ := rcK_cut hb0 hC
  unfold mX7_solveFlows mX7_solveFlows_s
  refine mTo.W (T_loadFlows (by omega) he h10 hq.2.1) (fun v1 V1 _ q => ?_)
  obtain ⟨q8, q9, q3, qa⟩ := q
  have q8 : V1.fI 2 8 = V.fI e 1 := q8
  have q9 : V1.fI 2 9 = nI m := q9
  have q3 : ∀ i, i < m → V1.rI 21 i = V.rI (e + 1) (5 * i) ∧ V1.rI 22 i = V.rI (e + 1) (5 * i + 1) ∧ V1.rI 23 i = V.rI (e + 1) (5 * i + 2) := q3
  have hq1 := hq.mv qa (by unfold wX7_loadFlows; omega) (by unfold wX7_loadFlows; omega)
  have hr1 := hr.mv qa (by unfold wX7_loadFlows; omega) (by unfold wX7_loadFlows; omega)
  have load : ∀ V2 : mV, V2.fI 2 8 = V1.fI 2 8 → V2.fI 2 9 = V1.fI 2 9 → (∀ a, 21 ≤ a → a ≤ 23 → V2.rI a = V1.rI a) → (∀ i, i < 10 → V2.rI 24 i = 0) → flS V2 (y + 2) m A B C (fun _ => 0) := fun V2 a1 a2 a3 a4 => by
    refine ⟨by rw [a1, q8, hq.1], by rw [a2, q9], fun i hi => ?_⟩
    rw [a3 21 (by omega) (by omega), a3 22 (by omega) (by omega), a3 23 (by omega) (by omega), a4 i (by omega), (q3 i hi).1, (q3 i hi).2.1, (q3 i hi).2.2, hq.2.2.2 _ (by omega), hq.2.2.2 _ (by omega), hq.2.2.2 _ (by omega)]
    exact ⟨(hd i hi).1, (hd i hi).2.1, (hd i hi).2.2.1, rfl⟩
  have great : mTo (mX7_greatest F V1) (fun p => (p.1 = nI (gr A B C (y + 2) m) ∧ p.2.fI 2 10 = nI (rcK A B C (y + 2) m) ∧ flS p.2 (y + 2) m A B C (fK A B C (y + 2) m (gr A B C (y + 2) m)))) := by
    unfold mX7_greatest mX7_greatest_s
    refine mTo.W (T_fill (F := F) (a := 24) (N := 10) (by omega) rfl (by omega)) (fun a V2 _ q => ?_)
    obtain ⟨z0, zb⟩ := q
    have z0 : ∀ i, i < 10 → V2.rI 24 i = 0 := z0
    have zb : mAv (wJ7_fill_53178 24) V1 V2 := zb
    exact T_greatest_go (F := F) (by omega) (by omega) (fun k hk => (fK_ok hb0 k hk).1) (by omega) 70 F 0 V2 (by omega) (by omega) (fun j hj => absurd hj (Nat.not_lt_zero _)) rfl (load V2 (by rw [(zb.1 2 (by unfold wJ7_fill_53178; omega)).1]) (by rw [(zb.1 2 (by unfold wJ7_fill_53178; omega)).1]) (fun a a1 a2 => (zb.1 a (by unfold wJ7_fill_53178; omega)).2.2.1) z0)
  obtain ⟨p, e1, gq⟩ := great
  have fr := NX7_greatest (v := p.1) (V1 := p.2) e1
  refine mTo.W (Q := fun p => (p.1 = nI (gr A B C (y + 2) m) ∧ p.2.fI 2 10 = nI (rcK A B C (y + 2) m) ∧ flS p.2 (y + 2) m A B C (fK A B C (y + 2) m (gr A B C (y + 2) m)))) ⟨p, e1, gq⟩ (fun a V2 h3 q => ?_)
  rw [e1] at h3
  cases h3
  obtain ⟨q4, q5, q6⟩ := q
  have q4 : a = nI (gr A B C (y + 2) m) := q4
  have q5 : V2.fI 2 10 = nI (rcK A B C (y + 2) m) := q5
  have q6 : flS V2 (y + 2) m A B C (fK A B C (y + 2) m (gr A B C (y + 2) m)) := q6
  subst q4
  have hq2 := hq1.mv fr (by unfold wX7_greatest; omega) (by unfold wX7_greatest; omega)
  have hr2 := hr1.mv fr (by unfold wX7_greatest; omega) (by unfold wX7_greatest; omega)
  have rk : ∀ V3 : mV, V3.rI = V2.rI → (∀ i, i ≠ e → V3.fI i = V2.fI i) → rowIs Ln V3 (e + 2) [] := fun V3 f1 f2 => by
    obtain ⟨a1, a2, a3, a4⟩ := hr2
    exact ⟨by rw [f2 _ (by omega)]; exact a1, a2, a3, fun i hi => by rw [f1]; exact a4 i hi⟩
  refine mTo.ltI rfl hq2.2.2.1 (by omega) (by omega) (fun h => ?_) (fun h => ?_)
  · refine mTo.W T_tell (fun a V3 _ q => ?_)
    obtain ⟨t1, t2, _, t4, _, t5⟩ := q
    have t1 : V3.fI e 11 = (if (0 : Int32) = 0 then (110 : Int32) else 121) := t1
    have t2 : V3.fI e 12 = _ := t2
    have t4 : V3.rI = V2.rI := t4
    have t5 : ∀ i, i ≠ e → V3.fI i = V2.fI i := t5
    obtain ⟨p, e2, r⟩ := T_sF2 (F := F) (e := e) hk he (by omega) c3 F 0 Ln V3 (by omega) (Nat.zero_le _) (by rw [t5 2 (by omega)]; exact q6.1) (by rw [t5 2 (by omega)]; exact q5) (rk V3 t4 t5)
    have fr2 := ((NX7_solveFlows_go (v := p.1) (Ln1 := p.2.1) (V1 := p.2.2) F).2.2 _ _ _ _ e2).1
    have fe : p.2.2.fI e = V3.fI e := (fr2.1 e (by unfold wX7_solveFlows_2; omega)).1
    refine ⟨p, e2, ?_, ?_, ?_⟩
    · rw [fe, t1, if_pos rfl, if_neg (by omega)]
    · rw [fe, t2]
    · unfold rowF
      rw [if_neg (by omega)]
      exact r
  · refine mTo.W T_tell (fun a V3 _ q => ?_)
    obtain ⟨t1, t2, t3, t4, _, t5⟩ := q
    have t1 : V3.fI e 11 = (if (1 : Int32) = 0 then (110 : Int32) else 121) := t1
    have t2 : V3.fI e 12 = _ := t2
    have t3 : ∀ k, k ≠ 11 → k ≠ 12 → V3.fI e k = V2.fI e k := t3
    have t4 : V3.rI = V2.rI := t4
    have t5 : ∀ i, i ≠ e → V3.fI i = V2.fI i := t5
    refine mTo.W (T_fill (F := F) (a := 24) (N := 10) (by omega) rfl (by omega)) (fun a V4 _ q => ?_)
    obtain ⟨z0, zb⟩ := q
    have z0 : ∀ i, i < 10 → V4.rI 24 i = 0 := z0
    have zb : mAv (wJ7_fill_53178 24) V3 V4 := zb
    have g4 : ∀ i, i ≠ 24 → V4.fI i = V3.fI i ∧ V4.rI i = V3.rI i := fun i hi => ⟨(zb.1 i (by unfold wJ7_fill_53178; omega)).1, (zb.1 i (by unfold wJ7_fill_53178; omega)).2.2.1⟩
    have fl4 : flS V4 (y + 2) m A B C (fun _ => 0) := load V4 (by rw [(g4 2 (by omega)).1, t5 2 (by omega), q6.1, q8, hq.1]) (by rw [(g4 2 (by omega)).1, t5 2 (by omega), q6.2.1, q9]) (fun a a1 a2 => by rw [(g4 a (by omega)).2, t4, (fr.1 a (by unfold wX7_greatest; omega)).2.2.1]) z0
    obtain ⟨p, e2, r⟩ := T_sF0 (F := F) (e := e) (y := y) (b := b) (by omega) hk he hb0 (fun j hj => g1 j (by omega)) hb F 0 Ln V4 (by omega) (Nat.zero_le _) (by rw [(g4 e (by omega)).1, t3 8 (by decide) (by decide)]; exact hq2.2.2.1) fl4 ((rk V3 t4 t5).mv zb (by unfold wJ7_fill_53178; omega) (by unfold wJ7_fill_53178; omega))
    have fr2 := ((NX7_solveFlows_go (v := p.1) (Ln1 := p.2.1) (V1 := p.2.2) F).1 _ _ _ _ e2).1
    have fe : p.2.2.fI e = V4.fI e := (fr2.1 e (by unfold wX7_solveFlows_0; omega)).1
    refine ⟨p, e2, ?_, ?_, ?_⟩
    · rw [fe, (g4 e (by omega)).1, t1, if_neg (by decide), if_pos h]
    · rw [fe, (g4 e (by omega)).1, t2]
    · unfold rowF
      rw [if_pos h]
      exact r
end
