/-! THE PURE PART, primes: the least divisor, what is left without one, the rest of a power. -/
section
theorem lN_int {a : Nat} (h : a < 2 ^ 63) : (lN a).toInt = a := Int64.toInt_ofNat_of_lt h
theorem lN_rem {a d : Nat} (ha : a < 2 ^ 63) (h0 : 0 < d) (hd : d < 2 ^ 63) : lN a - lN a / lN d * lN d = lN (a % d) := by
  have ne : lN d ≠ -1 := fun e => by
    have := congrArg Int64.toInt e
    rw [lN_int hd, show (-1 : Int64).toInt = -1 from rfl] at this
    omega
  have e1 : (lN a / lN d).toInt = ((a / d : Nat) : Int) := by
    rw [Int64.toInt_div_of_ne_right _ _ ne, lN_int ha, lN_int hd, Int.tdiv_eq_ediv_of_nonneg (by omega)]
    rfl
  have le := Nat.div_mul_le_self a d
  have md := Nat.div_add_mod a d
  have mc := Nat.mul_comm d (a / d)
  have e2 : lN a / lN d = lN (a / d) := Int64.toInt_inj.mp (by rw [e1, lN_int (Nat.lt_of_le_of_lt (Nat.div_le_self _ _) ha)])
  rw [e2, lN_mul]
  have e3 : lN (a % d) + lN (a / d * d) = lN a := by
    rw [show lN (a % d) + lN (a / d * d) = lN (a % d + a / d * d) from (Int64.ofNat_add _ _).symm]
    congr 1
    omega
  rw [← e3, Int64.add_sub_cancel]
theorem lN_I {a : Nat} (h : a < 2 ^ 31) : (lN a).toInt32 = nI a := by rw [← nI_l h, Int32.toInt32_toInt64]
theorem lN_ne {a : Nat} (h0 : 0 < a) (h : a < 2 ^ 63) : ¬ lN a = 0 := fun e => by
  have := congrArg Int64.toInt e
  rw [lN_int h, show (0 : Int64).toInt = 0 from rfl] at this
  omega
/-- the least divisor from d on, or n -/
def ldN (n : Nat) : Nat → Nat → Nat
  | 0, _ => n
  | k + 1, d => if n / d < d then n else if n % d = 0 then d else ldN n k (d + 1)
def ld (n : Nat) : Nat := ldN n 100 2
theorem ldN_ok {n : Nat} (hn : 2 ≤ n) (h4 : n < 10000) : ∀ k d, 2 ≤ d → 102 ≤ d + k → (∀ x, 2 ≤ x → x < d → n % x ≠ 0) → 2 ≤ ldN n k d ∧ ldN n k d ≤ n ∧ n % ldN n k d = 0 ∧ ∀ x, 2 ≤ x → n % x = 0 → ldN n k d ≤ x
  | 0, d, hd, hk, h => by
    refine ⟨hn, Nat.le_refl _, Nat.mod_self _, fun x hx e => Nat.le_of_not_lt fun z => ?_⟩
    rw [ldN] at z
    have m := Nat.div_add_mod n x
    rw [e, Nat.add_zero] at m
    have x1 : ¬ x < d := fun y => h x hx y e
    rcases Nat.lt_or_ge (n / x) 2 with y | y
    · rcases Nat.lt_or_ge (n / x) 1 with w | w
      · have w0 : n / x = 0 := Nat.lt_one_iff.mp w
        rw [w0, Nat.mul_zero] at m
        omega
      · have : n / x = 1 := by omega
        rw [this, Nat.mul_one] at m
        omega
    · have q : n % (n / x) = 0 := by
        have : n = n / x * x := by rw [Nat.mul_comm]; exact m.symm
        exact Nat.mod_eq_zero_of_dvd ⟨x, this⟩
      have x2 : ¬ n / x < d := fun w => h _ y w q
      have : 102 * 102 ≤ x * (n / x) := Nat.mul_le_mul (by omega) (by omega)
      omega
  | k + 1, d, hd, hk, h => by
    rw [ldN]
    by_cases z : n / d < d
    · rw [if_pos z]
      refine ⟨hn, Nat.le_refl _, Nat.mod_self _, fun x hx e => Nat.le_of_not_lt fun zz => ?_⟩
      have m := Nat.div_add_mod n x
      rw [e, Nat.add_zero] at m
      have x1 : ¬ x < d := fun y => h x hx y e
      rcases Nat.lt_or_ge (n / x) 2 with y | y
      · rcases Nat.lt_or_ge (n / x) 1 with w | w
        · have w0 : n / x = 0 := Nat.lt_one_iff.mp w
          rw [w0, Nat.mul_zero] at m
          omega
        · have : n / x = 1 := by omega
          rw [this, Nat.mul_one] at m
          omega
      · have q : n % (n / x) = 0 := by
          have : n = n / x * x := by rw [Nat.mul_comm]; exact m.symm
          exact Nat.mod_eq_zero_of_dvd ⟨x, this⟩
        have x2 : ¬ n / x < d := fun w => h _ y w q
        have : n / x ≤ n / d := Nat.div_le_div_left (by omega) (by omega)
        omega
    · rw [if_neg z]
      by_cases c : n % d = 0
      · rw [if_pos c]
        exact ⟨hd, Nat.le_of_dvd (by omega) (Nat.dvd_of_mod_eq_zero c), c, fun x hx e => Nat.le_of_not_lt fun y => h x hx y e⟩
      · rw [if_neg c]
        refine ldN_ok hn h4 k (d + 1) (by omega) (by omega) (fun x hx hd' => ?_)
        by_cases w : x = d
        · rw [w]
          exact c
        · exact h x hx (by omega)
theorem ldv_ok {n : Nat} (hn : 2 ≤ n) (h4 : n < 10000) : 2 ≤ ld n ∧ ld n ≤ n ∧ n % ld n = 0 ∧ ∀ x, 2 ≤ x → n % x = 0 → ld n ≤ x := ldN_ok hn h4 100 2 (Nat.le_refl _) (by omega) (fun x h1 h2 => by omega)
theorem T_ld {F n : Nat} (hF : 256 ≤ F) (h4 : n < 10000) : mX8_leastDivisor F (nI n) = some (nI (ld n)) := by
  have go : ∀ k' k d, k + 1 < k' → 2 ≤ d → d + k = 102 → mX8_leastDivisor_go F k' 0 (nI n) (nI d) = some (nI (ldN n k d)) := by
    intro k'
    induction k' with
    | zero => intro k d h; omega
    | succ k' ih =>
      intro k d h hd hk
      rw [mX8_leastDivisor_go, if_pos rfl]
      unfold mX8_leastDivisor_b0
      rw [if_neg (nI_ne0 (by omega) (by omega)), pk_rem (by omega) (by omega) (by omega), pk_div (by omega) (by omega) (by omega)]
      have dl := Nat.div_le_self n d
      have ml : n % d < d := Nat.mod_lt _ (by omega)
      cases k with
      | zero =>
        have : n / d ≤ n / 102 := by rw [show d = 102 by omega]; exact Nat.le_refl _
        rw [if_pos ((nI_ltI (by omega) (by omega)).mpr (by omega))]
        rfl
      | succ k =>
        rw [ldN]
        by_cases z : n / d < d
        · rw [if_pos ((nI_ltI (by omega) (by omega)).mpr z), if_pos z]
        · rw [if_neg (fun y => z ((nI_ltI (by omega) (by omega)).mp y)), if_neg z, if_neg (nI_ne0 (by omega) (by omega))]
          by_cases c : n % d = 0
          · rw [c, if_pos (show nI 0 = 0 from rfl), if_pos rfl]
          · rw [if_neg (nI_ne0 (by omega) (by omega)), if_neg c]
            show mX8_leastDivisor_go F k' 0 (nI n) (nI d + 1) = _
            rw [nI_1]
            exact ih k (d + 1) (by omega) (by omega) (by omega)
  unfold mX8_leastDivisor mX8_leastDivisor_s
  exact go F 100 2 (by omega) (Nat.le_refl _) rfl
def wdN (d : Nat) : Nat → Nat → Nat
  | 0, n => n
  | k + 1, n => if d ≤ 1 then n else if n ≤ 1 then n else if n % d = 0 then wdN d k (n / d) else n
def wod (n d : Nat) : Nat := wdN d 32 n
theorem wdN_ok {d : Nat} (hd : 2 ≤ d) : ∀ k n, 1 ≤ n → n < 2 ^ k → 1 ≤ wdN d k n ∧ (∃ j, n = wdN d k n * d ^ j) ∧ (wdN d k n = 1 ∨ wdN d k n % d ≠ 0) ∧ wdN d k n ≤ n
  | 0, n, h1, h2 => by
    have h2 : n < 1 := h2
    omega
  | k + 1, n, h1, h2 => by
    rw [wdN, if_neg (by omega)]
    by_cases z : n ≤ 1
    · rw [if_pos z]
      exact ⟨h1, ⟨0, by rw [Nat.pow_zero, Nat.mul_one]⟩, Or.inl (by omega), Nat.le_refl _⟩
    · rw [if_neg z]
      by_cases c : n % d = 0
      · rw [if_pos c]
        have m := Nat.div_add_mod n d
        rw [c, Nat.add_zero] at m
        have p1 : 1 ≤ n / d := by
          rcases Nat.eq_zero_or_pos (n / d) with w | w
          · rw [w, Nat.mul_zero] at m
            omega
          · exact w
        have p2 : n / d ≤ n / 2 := Nat.div_le_div_left hd (by omega)
        rw [Nat.pow_succ] at h2
        obtain ⟨a, ⟨j, b⟩, e, f⟩ := wdN_ok hd k (n / d) p1 (by omega)
        refine ⟨a, ⟨j + 1, ?_⟩, e, by omega⟩
        rw [Nat.pow_succ, ← Nat.mul_assoc, ← b, Nat.mul_comm]
        exact m.symm
      · rw [if_neg c]
        exact ⟨h1, ⟨0, by rw [Nat.pow_zero, Nat.mul_one]⟩, Or.inr c, Nat.le_refl _⟩
theorem T_wd {F n d : Nat} (hF : 64 ≤ F) (hn : n < 2 ^ 31) (hd : d < 2 ^ 31) : mX8_withoutDivisor F (nI n) (nI d) = some (nI (wod n d)) := by
  have go : ∀ k' k t n, k < k' → k + t = 32 → n < 2 ^ 31 → mX8_withoutDivisor_go F k' 0 (nI d) (nI n) (nI t) = some (nI (wdN d k n)) := by
    intro k'
    induction k' with
    | zero => intro k t n h; omega
    | succ k' ih =>
      intro k t n h hk hn
      rw [mX8_withoutDivisor_go, if_pos rfl]
      unfold mX8_withoutDivisor_b0
      cases k with
      | zero =>
        rw [if_pos (show (32 : Int32) ≤ nI t from (nI_leI (a := 32) (b := t) (by omega) (by omega)).mpr (by omega))]
        rfl
      | succ k =>
        rw [if_neg (fun y => by have := (nI_leI (a := 32) (b := t) (by omega) (by omega)).mp y; omega), wdN]
        by_cases z : d ≤ 1
        · rw [if_pos (show nI d ≤ (1 : Int32) from (nI_leI (b := 1) (by omega) (by omega)).mpr z), if_pos z]
        · rw [if_neg (show ¬ nI d ≤ (1 : Int32) from fun y => z ((nI_leI (b := 1) (by omega) (by omega)).mp y)), if_neg z]
          by_cases w : n ≤ 1
          · rw [if_pos (show nI n ≤ (1 : Int32) from (nI_leI (b := 1) (by omega) (by omega)).mpr w), if_pos w]
          · rw [if_neg (show ¬ nI n ≤ (1 : Int32) from fun y => w ((nI_leI (b := 1) (by omega) (by omega)).mp y)), if_neg w, if_neg (nI_ne0 (by omega) (by omega)), pk_rem (by omega) (by omega) (by omega)]
            have ml : n % d < d := Nat.mod_lt _ (by omega)
            have dl := Nat.div_le_self n d
            by_cases c : n % d = 0
            · rw [c, if_pos (show nI 0 = 0 from rfl), if_pos rfl, if_neg (nI_ne0 (by omega) (by omega)), pk_div (by omega) (by omega) (by omega)]
              show mX8_withoutDivisor_go F k' 0 (nI d) (nI (n / d)) (nI t + 1) = _
              rw [nI_1]
              exact ih k (t + 1) (n / d) (by omega) (by omega) (by omega)
            · rw [if_neg (nI_ne0 (by omega) (by omega)), if_neg c]
  unfold mX8_withoutDivisor mX8_withoutDivisor_s
  exact go F 32 0 n (by omega) rfl hn
def pwN (m : Nat) : Nat → Nat → Nat → Nat → Nat
  | 0, r, _, _ => r
  | k + 1, r, q, e => if e = 0 then r else pwN m k (if e % 2 = 1 then r * q % m else r) (q * q % m) (e / 2)
def pw (a e m : Nat) : Nat := pwN m 31 (1 % m) (a % m) e
theorem pwN_ok {m : Nat} (hm : 0 < m) : ∀ k r q e, e < 2 ^ k → r < m → pwN m k r q e = r * q ^ e % m
  | 0, r, q, e, h, hr => by
    have : e = 0 := by
      have h : e < 1 := h
      omega
    rw [pwN, this, Nat.pow_zero, Nat.mul_one, Nat.mod_eq_of_lt hr]
  | k + 1, r, q, e, h, hr => by
    rw [pwN]
    by_cases z : e = 0
    · rw [if_pos z, z, Nat.pow_zero, Nat.mul_one, Nat.mod_eq_of_lt hr]
    · rw [if_neg z]
      rw [Nat.pow_succ] at h
      have sq : (q * q % m) ^ (e / 2) % m = q ^ (2 * (e / 2)) % m := by
        rw [← Nat.pow_mod, Nat.pow_mul, Nat.pow_two]
      by_cases c : e % 2 = 1
      · rw [if_pos c, pwN_ok hm k _ _ _ (by omega) (Nat.mod_lt _ hm), Nat.mul_mod, sq, Nat.mod_mod, ← Nat.mul_mod, Nat.mul_assoc]
        have e2 : q ^ e = q * q ^ (2 * (e / 2)) := by
          rw [Nat.mul_comm, ← Nat.pow_succ]
          congr 1
          omega
        rw [e2]
      · rw [if_neg c, pwN_ok hm k _ _ _ (by omega) hr, Nat.mul_mod, sq, ← Nat.mul_mod]
        congr 2
        congr 1
        omega
theorem pw_ok {a e m : Nat} (hm : 0 < m) (he : e < 2 ^ 31) : pw a e m = a ^ e % m := by
  unfold pw
  rw [pwN_ok hm 31 _ _ _ he (Nat.mod_lt _ hm), Nat.mul_mod, Nat.mod_mod, ← Nat.pow_mod, ← Nat.mul_mod, Nat.one_mul]
theorem pwN_lt {m : Nat} (hm : 0 < m) : ∀ k r q e, r < m → pwN m k r q e < m
  | 0, r, q, e, hr => hr
  | k + 1, r, q, e, hr => by
    rw [pwN]
    by_cases z : e = 0
    · rw [if_pos z]
      exact hr
    · rw [if_neg z]
      refine pwN_lt hm k _ _ _ ?_
      by_cases c : e % 2 = 1
      · rw [if_pos c]
        exact Nat.mod_lt _ hm
      · rw [if_neg c]
        exact hr
theorem T_pw {F a e m : Nat} (hF : 64 ≤ F) (h0 : 0 < m) (hm : m < 2 ^ 31) (ha : a < 2 ^ 31) (he : e < 2 ^ 31) : mX11_restOfPower F (nI a) (nI e) (nI m) = some (nI (pw a e m)) := by
  have pr : ∀ x y, x < m → y < m → x * y < 2 ^ 62 := fun x y hx hy => by
    have h1 : x * y ≤ 2 ^ 31 * y := Nat.mul_le_mul_right _ (by omega)
    have h2 : 2 ^ 31 * y < 2 ^ 31 * 2 ^ 31 := Nat.mul_lt_mul_of_pos_left (by omega) (by decide)
    have e3 : (2 : Nat) ^ 31 * 2 ^ 31 = 2 ^ 62 := by decide
    omega
  have go : ∀ k' k t r q e, k < k' → k + t = 31 → r < m → q < m → e < 2 ^ 31 → mX11_restOfPower_go F k' 0 (nI m) (lN r) (lN q) (nI e) (nI t) = some (nI (pwN m k r q e)) := by
    intro k'
    induction k' with
    | zero => intro k t r q e h; omega
    | succ k' ih =>
      intro k t r q e h hk hr hq he
      rw [mX11_restOfPower_go, if_pos rfl]
      unfold mX11_restOfPower_b0
      cases k with
      | zero =>
        rw [if_pos (show (31 : Int32) ≤ nI t from (nI_leI (a := 31) (b := t) (by omega) (by omega)).mpr (by omega)), lN_I (by omega)]
        rfl
      | succ k =>
        rw [if_neg (fun y => by have := (nI_leI (a := 31) (b := t) (by omega) (by omega)).mp y; omega), pwN]
        by_cases z : e = 0
        · rw [z, if_pos (by decide), if_pos rfl, lN_I (by omega)]
        · rw [if_neg (fun y => z (by have := (nI_leI (a := e) (b := 0) (by omega) (by omega)).mp y; omega)), if_neg z, nb_and1, nI_l (by omega)]
          have q1 := pr q q hq hq
          have r1 := pr r q hr hq
          have lm := Nat.mod_lt (q * q) h0
          have lr := Nat.mod_lt (r * q) h0
          have dl := Nat.div_le_self e 2
          have sh : nI e >>> ((1 : Int32) &&& 31) = nI (e / 2) := nb_shr (j := 1) (by omega) (by omega)
          rw [if_neg (lN_ne h0 (by omega)), sh, lN_mul, lN_mul, lN_rem (by omega) h0 (by omega), lN_rem (by omega) h0 (by omega)]
          by_cases c : e % 2 = 1
          · rw [if_pos (show nI (e % 2) = 1 by rw [c]; rfl), if_pos c]
            show (if lN m = 0 then none else mLt (lN (q * q % m)) fun x11 => mLt (nI (e / 2)) fun x12 => mLt (nI t + 1) fun x13 => mX11_restOfPower_go F k' 0 (nI m) (lN (r * q % m)) x11 x12 x13) = _
            rw [if_neg (lN_ne h0 (by omega))]
            show mX11_restOfPower_go F k' 0 (nI m) (lN (r * q % m)) (lN (q * q % m)) (nI (e / 2)) (nI t + 1) = _
            rw [nI_1]
            exact ih k (t + 1) _ _ _ (by omega) (by omega) lr lm (by omega)
          · rw [if_neg (show ¬ nI (e % 2) = 1 from fun y => c ((nI_eq (b := 1) (by omega) (by omega)).mp y)), if_neg c, if_neg (lN_ne h0 (by omega))]
            show mX11_restOfPower_go F k' 0 (nI m) (lN r) (lN (q * q % m)) (nI (e / 2)) (nI t + 1) = _
            rw [nI_1]
            exact ih k (t + 1) _ _ _ (by omega) (by omega) hr lm (by omega)
  unfold mX11_restOfPower mX11_restOfPower_s
  rw [if_pos (show (1 : Int32) ≤ nI m from (nI_leI (a := 1) (b := m) (by omega) (by omega)).mpr (by omega)), if_neg (nI_ne0 (by omega) (by omega))]
  have e1 : (1 : Int32) - (1 : Int32) / nI m * nI m = nI (1 % m) := pk_rem (a := 1) (by omega) h0 (by omega)
  rw [e1, nI_l (by have := Nat.mod_lt 1 h0; omega)]
  show (if nI m = 0 then none else mLt (nI a - nI a / nI m * nI m).toInt64 fun x18 => mX11_restOfPower_go F F 0 (nI m) (lN (1 % m)) x18 (nI e) 0) = _
  rw [if_neg (nI_ne0 (by omega) (by omega)), pk_rem ha h0 hm, nI_l (by have := Nat.mod_lt a h0; omega)]
  show mX11_restOfPower_go F F 0 (nI m) (lN (1 % m)) (lN (a % m)) (nI e) (nI 0) = _
  exact go F 31 0 _ _ e (by omega) rfl (Nat.mod_lt _ h0) (Nat.mod_lt _ h0) he
end
