/-! THE PURE PART, primes: a base with the full order; what is read is a prime. -/
section
def isPr (p : Nat) : Prop := 2 ≤ p ∧ ∀ d, d ∣ p → d = 1 ∨ d = p
theorem pr_ex : ∀ k n, n ≤ k → 2 ≤ n → ∃ q, isPr q ∧ q ∣ n := by
  intro k
  induction k with
  | zero => intro n h h2; omega
  | succ k ih =>
    intro n h h2
    by_cases z : isPr n
    · exact ⟨n, z, Nat.dvd_refl n⟩
    · obtain ⟨d, hd⟩ : ∃ d, ¬ (d ∣ n → d = 1 ∨ d = n) := Classical.byContradiction fun w => z ⟨h2, fun d => Classical.byContradiction fun y => w ⟨d, y⟩⟩
      have hdn : d ∣ n := Classical.byContradiction fun w => hd fun y => absurd y w
      have d1 : d ≠ 1 := fun w => hd fun _ => Or.inl w
      have d2 : d ≠ n := fun w => hd fun _ => Or.inr w
      have le := Nat.le_of_dvd (by omega) hdn
      have pos := Nat.pos_of_dvd_of_pos hdn (by omega)
      obtain ⟨q, q1, q2⟩ := ih d (by omega) (by omega)
      exact ⟨q, q1, Nat.dvd_trans q2 hdn⟩
theorem pr_mul {q m n : Nat} (hq : isPr q) (h : q ∣ m * n) : q ∣ m ∨ q ∣ n := by
  by_cases z : q ∣ m
  · exact Or.inl z
  · refine Or.inr (Nat.Coprime.dvd_of_dvd_mul_left ?_ h)
    rcases hq.2 _ (Nat.gcd_dvd_left q m) with e | e
    · exact e
    · exact absurd (by rw [← e]; exact Nat.gcd_dvd_right q m) z
theorem pr_pow {q d : Nat} (hq : isPr q) : ∀ i, q ∣ d ^ i → q ∣ d
  | 0, h => by
    rw [Nat.pow_zero] at h
    have := Nat.le_of_dvd (by omega) h
    have := hq.1
    omega
  | i + 1, h => by
    rw [Nat.pow_succ] at h
    rcases pr_mul hq h with y | y
    · exact pr_pow hq i y
    · exact y
theorem pm_add {a p x y : Nat} (h : a ^ x % p = 1) : a ^ (x + y) % p = a ^ y % p := by rw [Nat.pow_add, Nat.mul_mod, h, Nat.one_mul, Nat.mod_mod]
theorem pm_mul {a p x : Nat} (hp : 2 ≤ p) (h : a ^ x % p = 1) : ∀ k, a ^ (x * k) % p = 1
  | 0 => by
    rw [Nat.mul_zero, Nat.pow_zero]
    exact Nat.mod_eq_of_lt hp
  | k + 1 => by
    rw [Nat.mul_succ, Nat.add_comm, pm_add h]
    exact pm_mul hp h k
/-- no lower power has the rest 1 -/
theorem ord {a p : Nat} (hp : 3 ≤ p) (h1 : a ^ (p - 1) % p = 1) (h2 : ∀ q, isPr q → q ∣ p - 1 → a ^ ((p - 1) / q) % p ≠ 1) : ∀ e, 0 < e → e < p - 1 → a ^ e % p ≠ 1 := by
  intro e
  induction e using Nat.strongRecOn with
  | ind e ih =>
    intro e0 e1 he
    have m := Nat.div_add_mod (p - 1) e
    have sl := Nat.mod_lt (p - 1) e0
    have s0 : a ^ ((p - 1) % e) % p = 1 := by
      have := pm_add (y := (p - 1) % e) (pm_mul (by omega) he ((p - 1) / e))
      rw [m, h1] at this
      exact this.symm
    rcases Nat.eq_zero_or_pos ((p - 1) % e) with z | z
    · rw [z, Nat.add_zero] at m
      have t2 : 2 ≤ (p - 1) / e := by
        rcases Nat.lt_or_ge ((p - 1) / e) 2 with y | y
        · exfalso
          rcases Nat.lt_or_ge ((p - 1) / e) 1 with w | w
          · have w0 : (p - 1) / e = 0 := Nat.lt_one_iff.mp w
            rw [w0, Nat.mul_zero] at m
            omega
          · have w0 : (p - 1) / e = 1 := by omega
            rw [w0, Nat.mul_one] at m
            omega
        · exact y
      obtain ⟨q, q1, u, hu⟩ := pr_ex _ _ (Nat.le_refl _) t2
      have pe : p - 1 = q * (e * u) := by
        rw [← m, hu]
        exact Nat.mul_left_comm e q u
      refine h2 q q1 ⟨e * u, pe⟩ ?_
      rw [pe, Nat.mul_div_cancel_left _ (by have := q1.1; omega)]
      exact pm_mul (by omega) he u
    · exact ih _ sl z (by omega) s0
theorem lucas {a p : Nat} (hp : 3 ≤ p) (h1 : a ^ (p - 1) % p = 1) (h2 : ∀ q, isPr q → q ∣ p - 1 → a ^ ((p - 1) / q) % p ≠ 1) : isPr p := by
  have od := ord hp h1 h2
  refine ⟨by omega, fun x hx => Classical.byContradiction fun w => ?_⟩
  have x1 : x ≠ 1 := fun e => w (Or.inl e)
  have x2 : x ≠ p := fun e => w (Or.inr e)
  have xle := Nat.le_of_dvd (by omega) hx
  have x0 := Nat.pos_of_dvd_of_pos hx (by omega)
  -- no power is a multiple of x
  have nm : ∀ i, i < p - 1 → ¬ x ∣ a ^ (i + 1) % p := fun i hi hd => by
    have h3 : x ∣ a ^ (i + 1) := (Nat.dvd_mod_iff hx).mp hd
    have h4 : x ∣ a ^ (p - 1) := by
      rw [show p - 1 = i + 1 + (p - 1 - (i + 1)) by omega, Nat.pow_add]
      exact Nat.dvd_trans h3 (Nat.dvd_mul_right _ _)
    have h5 := (Nat.dvd_mod_iff hx).mpr h4
    rw [h1] at h5
    have := Nat.le_of_dvd (by omega) h5
    omega
  have lt : ∀ i j, i < j → j < p - 1 → a ^ (i + 1) % p ≠ a ^ (j + 1) % p := fun i j hij hj e => by
    have e2 : a ^ (i + 1) * a ^ (p - 1 - (i + 1)) % p = a ^ (j + 1) * a ^ (p - 1 - (i + 1)) % p := by rw [Nat.mul_mod, e, ← Nat.mul_mod]
    rw [← Nat.pow_add, ← Nat.pow_add, show i + 1 + (p - 1 - (i + 1)) = p - 1 by omega, show j + 1 + (p - 1 - (i + 1)) = p - 1 + (j - i) by omega, pm_add h1, h1] at e2
    exact od (j - i) (by omega) (by omega) e2.symm
  have c1 := cnt_inj (X := fun _ => true) (f := fun i => a ^ (i + 1) % p) (m := p) (p - 1) (Y := fun v => decide (v ≠ 0 ∧ v ≠ x)) (fun i hi _ => ⟨Nat.mod_lt _ (by omega), decide_eq_true ⟨fun e => nm i hi (by rw [e]; exact Nat.dvd_zero x), fun e => nm i hi (by rw [e]; exact Nat.dvd_refl x)⟩⟩) (fun i j hi hj _ _ e => by
    rcases Nat.lt_trichotomy i j with z | z | z
    · exact absurd e (lt i j z hj)
    · exact z
    · exact absurd e.symm (lt j i z hi))
  have c2 := cnt_lt (X := fun v => decide (v ≠ 0 ∧ v ≠ x)) (Y := fun v => decide (v ≠ 0)) (n := p) (fun i _ h => decide_eq_true (of_decide_eq_true h).1) (show x < p by omega) (decide_eq_false (fun z => z.2 rfl)) (decide_eq_true (by omega))
  have c4 := cnt_lt (X := fun v => decide (v ≠ 0)) (Y := fun _ => true) (n := p) (fun _ _ _ => rfl) (show 0 < p by omega) (decide_eq_false (fun z => z rfl)) rfl
  have c3 : ∀ n, cnt (fun _ => true) n = n := fun n => by
    induction n with
    | zero => rfl
    | succ n ih => rw [cnt, ih, if_pos rfl]
  rw [c3] at c1 c4
  omega
theorem rdL_pr {rc : Nat → Option Nat} {xs : List Int32} {p a : Nat} (hp : 2 ≤ p) (hp31 : p < 2 ^ 31) (hrc : ∀ f q, rc f = some q → isPr (pX xs f)) : ∀ k place ahead rest z, 1 ≤ rest → rest < 2 ^ 31 → rdL rc xs true p a k place ahead rest = some z → ∀ q, isPr q → q ∣ rest → a ^ ((p - 1) / q) % p ≠ 1 := by
  have one : ∀ q, isPr q → ¬ q ∣ 1 := fun q h1 h2 => by
    have := Nat.le_of_dvd (by omega) h2
    have := h1.1
    omega
  intro k
  induction k with
  | zero =>
    intro place ahead rest z h1 h2 h q hq hd
    rw [rdL] at h
    by_cases e : rest = 1
    · rw [e] at hd
      exact absurd hd (one q hq)
    · rw [if_neg e] at h
      cases h
  | succ k ih =>
    intro place ahead rest z h1 h2 h q hq hd
    rw [rdL] at h
    by_cases e : rest = 1
    · rw [e] at hd
      exact absurd hd (one q hq)
    · rw [if_neg e] at h
      by_cases z2 : xs.length ≤ place
      · rw [if_pos z2] at h
        cases h
      · rw [if_neg z2] at h
        by_cases z3 : pX xs place ≤ ahead
        · rw [if_pos z3] at h
          cases h
        · rw [if_neg z3] at h
          by_cases z4 : rest % pX xs place ≠ 0
          · rw [if_pos z4] at h
            cases h
          · rw [if_neg z4] at h
            by_cases z5 : true = true ∧ pw a ((p - 1) / pX xs place) p = 1
            · rw [if_pos z5] at h
              cases h
            · rw [if_neg z5] at h
              cases e2 : rc place with
              | none =>
                rw [e2] at h
                cases h
              | some pl =>
                rw [e2] at h
                have hd' := hrc place pl e2
                generalize pX xs place = d at *
                obtain ⟨w1, ⟨i, w2⟩, w3, w4⟩ := wdN_ok hd'.1 32 rest h1 (by omega)
                have ewo : wdN d 32 rest = wod rest d := rfl
                rw [ewo] at w1 w2 w3 w4
                rw [w2] at hd
                rcases pr_mul hq hd with y | y
                · exact ih pl d (wod rest d) z w1 (by omega) h q hq y
                · have y := pr_pow hq i y
                  rcases hd'.2 q y with u | u
                  · have := hq.1
                    omega
                  · have nz : pw a ((p - 1) / d) p ≠ 1 := fun v => z5 ⟨rfl, v⟩
                    have dl := Nat.div_le_self (p - 1) d
                    rw [pw_ok (by omega) (by omega)] at nz
                    rw [u]
                    exact nz
theorem rdP_pr {xs : List Int32} : ∀ j first q, rdP xs true j first = some q → isPr (pX xs first)
  | 0, first, q, h => by
    rw [rdP] at h
    cases h
  | j + 1, first, q, h => by
    rw [rdP] at h
    by_cases z : xs.length ≤ first
    · rw [if_pos z] at h
      cases h
    · rw [if_neg z] at h
      by_cases z2 : pX xs first < 2
      · rw [if_pos z2] at h
        cases h
      · rw [if_neg z2] at h
        by_cases z3 : 40 < 48 - (j + 1)
        · rw [if_pos z3] at h
          cases h
        · rw [if_neg z3] at h
          by_cases z4 : pX xs first = 2
          · rw [z4]
            refine ⟨Nat.le_refl _, fun d hd => ?_⟩
            have := Nat.le_of_dvd (by omega) hd
            have := Nat.pos_of_dvd_of_pos hd (by omega)
            omega
          · rw [if_neg z4] at h
            by_cases z5 : pX xs (first + 1) < 1
            · rw [if_pos z5] at h
              cases h
            · rw [if_neg z5] at h
              by_cases z6 : pX xs first ≤ pX xs (first + 1)
              · rw [if_pos z6] at h
                cases h
              · rw [if_neg z6] at h
                by_cases z7 : true = true ∧ pw (pX xs (first + 1)) (pX xs first - 1) (pX xs first) ≠ 1
                · rw [if_pos z7] at h
                  cases h
                · rw [if_neg z7] at h
                  have p31 : pX xs first < 2 ^ 31 := (pX_n (x := xs.getD first 0) (by have : ¬ (xs.getD first 0).toNatClampNeg < 2 := z2; omega)).1
                  have h1 : pw (pX xs (first + 1)) (pX xs first - 1) (pX xs first) = 1 := Decidable.not_not.mp (fun y => z7 ⟨rfl, y⟩)
                  rw [pw_ok (by omega) (by omega)] at h1
                  exact lucas (by omega) h1 (rdL_pr (by omega) p31 (fun f q hf => rdP_pr j f q hf) 40 _ _ _ q (by omega) (by omega) h)
theorem pr_ld {b : Nat} (hb : 2 ≤ b) (h4 : b < 10000) : isPr b ↔ ld b = b := by
  obtain ⟨a1, a2, a3, a4⟩ := ldv_ok hb h4
  constructor
  · intro h
    exact (h.2 _ (Nat.dvd_of_mod_eq_zero a3)).resolve_left (by omega)
  · intro h
    refine ⟨hb, fun d hd => Classical.byContradiction fun w => ?_⟩
    have d1 : d ≠ 1 := fun e => w (Or.inl e)
    have d2 : d ≠ b := fun e => w (Or.inr e)
    have le := Nat.le_of_dvd (by omega) hd
    have pos := Nat.pos_of_dvd_of_pos hd (by omega)
    have := a4 d (by omega) (Nat.mod_eq_zero_of_dvd hd)
    omega
def primeOK (b : Nat) (xs : List Int32) : Prop := rdP xs false 48 0 = some xs.length ∧ xs.getD 0 0 = nI b ∧ rdP xs true 48 0 = some xs.length
def prodOK (b : Nat) (xs : List Int32) : Prop := xs.length = 2 ∧ 2 ≤ pX xs 0 ∧ 2 ≤ pX xs 1 ∧ pX xs 0 * pX xs 1 = b
/-- WEAK DUALITY -/
theorem prime_prod {b : Nat} {xs ys : List Int32} (hb : b < 10000) (h1 : primeOK b xs) (h2 : prodOK b ys) : False := by
  have p := rdP_pr 48 0 _ h1.2.2
  rw [pX_eq h1.2.1 (by omega)] at p
  obtain ⟨_, a, c, e⟩ := h2
  generalize pX ys 0 = x at *
  generalize pX ys 1 = y at *
  rcases p.2 x ⟨y, e.symm⟩ with u | u
  · omega
  · rw [u] at e a
    have : b * 2 ≤ b * y := Nat.mul_le_mul_left _ c
    omega
theorem oI_eq {o : Option Nat} {n : Nat} (hn : n < 2 ^ 20) (h : ∀ q, o = some q → q ≤ n) : oI o = nI n ↔ o = some n := by
  cases o with
  | none =>
    refine ⟨fun e => ?_, fun e => by cases e⟩
    have e : (-1 : Int32) = nI n := e
    have := congrArg Int32.toInt e
    rw [nI_toInt (by omega), show (-1 : Int32).toInt = -1 from rfl] at this
    omega
  | some q =>
    have := h q rfl
    constructor
    · intro e
      rw [(nI_eq (by omega) (by omega)).mp e]
    · intro e
      cases e
      rfl
theorem T_judgePrime {F e r s m b : Nat} {Ln : Nat → Nat} {d : Nat → Int32} {xs : List Int32} {V : mV} (hF : 64 ≤ F) (hq : enQ V e s m (nI b) d) (hR : rowIs Ln V r xs) : mTo (mX8_judgePrime F Ln e r V) (fun v => v = 0 ↔ primeOK b xs) := by
  have n := hR.n
  unfold mX8_judgePrime
  have rd : ∀ w, mX8_readPrime F 48 Ln r ((0 : Int32)) ((0 : Int32)) (wI w) V = some (oI (rdP xs w 48 0)) := fun w => T_readPrime (F := F) (w := w) hF hR 48 0 0 rfl (Nat.zero_le _) (by omega)
  have eq : ∀ w, oI (rdP xs w 48 0) = nI xs.length ↔ rdP xs w 48 0 = some xs.length := fun w => oI_eq (by omega) (fun q hq => rdP_le _ _ q hq)
  refine mTo.so (rd false) ?_
  rw [hR.1]
  refine mTo.ite (fun h1 => mTo.so (T_rAt (j := 0) hR (by omega)) ?_) (fun h1 => mTo.ret ⟨fun y => absurd (show (1 : Int32) = 0 from y) (by decide), fun y => absurd ((eq false).mpr y.1) h1⟩)
  rw [hq.2.2.1]
  refine mTo.ite (fun h2 => mTo.so (rd true) (mTo.ite (fun h3 => mTo.ret ⟨fun _ => ⟨(eq false).mp h1, h2, (eq true).mp h3⟩, fun _ => rfl⟩) (fun h3 => mTo.ret ⟨fun y => absurd (show (3 : Int32) = 0 from y) (by decide), fun y => absurd ((eq true).mpr y.2.2) h3⟩))) (fun h2 => mTo.ret ⟨fun y => absurd (show (2 : Int32) = 0 from y) (by decide), fun y => absurd y.2.1 h2⟩)
end
