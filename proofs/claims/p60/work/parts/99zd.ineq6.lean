/-! THE PURE PART, inequalities: how many turns there can be at most. -/
section
theorem cnt_add {X : Nat → Bool} {a : Nat} : ∀ b, cnt X (a + b) = cnt X a + cnt (fun i => X (a + i)) b
  | 0 => rfl
  | b + 1 => by
    show cnt X (a + b) + (if X (a + b) = true then 1 else 0) = _
    rw [cnt_add b]
    show _ = cnt X a + (cnt (fun i => X (a + i)) b + (if X (a + b) = true then 1 else 0))
    omega
theorem cnt_not {X : Nat → Bool} : ∀ n, cnt (fun i => !X i) n + cnt X n = n
  | 0 => rfl
  | n + 1 => by
    have ih := cnt_not (X := X) n
    show cnt (fun i => !X i) n + (if (!X n) = true then 1 else 0) + (cnt X n + (if X n = true then 1 else 0)) = n + 1
    cases X n
    · rw [if_pos (by rfl), if_neg (by decide)]
      omega
    · rw [if_neg (by decide), if_pos rfl]
      omega
theorem cnt_T : ∀ n, cnt (fun _ => true) n = n
  | 0 => rfl
  | n + 1 => by
    show cnt (fun _ => true) n + (if true = true then 1 else 0) = n + 1
    rw [cnt_T n, if_pos rfl]
/-- sets of at most k of n -/
def bnK : Nat → Nat → Nat
  | _, 0 => 1
  | 0, _ + 1 => 1
  | k + 1, n + 1 => bnK (k + 1) n + bnK k n
def cbt (n x : Nat) : Nat := cnt (fun i => x.testBit i) n
theorem cbt_lo {n x : Nat} (h : x < 2 ^ n) : cbt (n + 1) x = cbt n x := by
  show cnt _ n + (if x.testBit n = true then 1 else 0) = _
  rw [Nat.testBit_lt_two_pow h, if_neg (by decide)]
  rfl
theorem cbt_hi {n x : Nat} (h : x < 2 ^ n) : cbt (n + 1) (2 ^ n + x) = cbt n x + 1 := by
  show cnt _ n + (if (2 ^ n + x).testBit n = true then 1 else 0) = _
  rw [Nat.testBit_two_pow_add_eq, Nat.testBit_lt_two_pow h, if_pos (by rfl)]
  congr 1
  exact cnt_eq n (fun i hi => Nat.testBit_two_pow_add_gt hi x)
theorem cbt_n : ∀ n k, cnt (fun x => decide (cbt n x ≤ k)) (2 ^ n) ≤ bnK k n
  | 0, k => by
    rw [bnK]
    exact cnt_n 1
  | n + 1, 0 => by
    have e : 2 ^ (n + 1) = 2 ^ n + 2 ^ n := by rw [Nat.pow_succ]; omega
    rw [e, cnt_add]
    have h1 : cnt (fun i => decide (cbt (n + 1) (2 ^ n + i) ≤ 0)) (2 ^ n) = 0 := cnt_0 _ (fun i hi => by
      rw [cbt_hi hi]
      exact decide_eq_false (by omega))
    have h2 : cnt (fun i => decide (cbt (n + 1) i ≤ 0)) (2 ^ n) = cnt (fun i => decide (cbt n i ≤ 0)) (2 ^ n) := cnt_eq _ (fun i hi => by rw [cbt_lo hi])
    have h3 := cbt_n n 0
    have h4 : bnK 0 n = 1 := by
      cases n <;> rfl
    show _ ≤ bnK 0 (n + 1)
    rw [h1, h2]
    show _ ≤ 1
    omega
  | n + 1, k + 1 => by
    have e : 2 ^ (n + 1) = 2 ^ n + 2 ^ n := by rw [Nat.pow_succ]; omega
    rw [e, cnt_add]
    have h1 : cnt (fun i => decide (cbt (n + 1) (2 ^ n + i) ≤ k + 1)) (2 ^ n) = cnt (fun i => decide (cbt n i ≤ k)) (2 ^ n) := cnt_eq _ (fun i hi => by
      rw [cbt_hi hi]
      exact decide_eq_decide.mpr (by omega))
    have h2 : cnt (fun i => decide (cbt (n + 1) i ≤ k + 1)) (2 ^ n) = cnt (fun i => decide (cbt n i ≤ k + 1)) (2 ^ n) := cnt_eq _ (fun i hi => by rw [cbt_lo hi])
    have h3 := cbt_n n (k + 1)
    have h4 := cbt_n n k
    rw [h1, h2, bnK]
    omega
/-- a set as a number -/
def mkZ (X : Nat → Bool) : Nat → Nat
  | 0 => 0
  | n + 1 => (if X n = true then 2 ^ n else 0) + mkZ X n
theorem mkZ_lt {X : Nat → Bool} : ∀ n, mkZ X n < 2 ^ n
  | 0 => Nat.one_pos
  | n + 1 => by
    have := mkZ_lt (X := X) n
    rw [mkZ, Nat.pow_succ]
    split <;> omega
theorem mkZ_tb {X : Nat → Bool} : ∀ n i, i < n → (mkZ X n).testBit i = X i
  | 0, _, h => absurd h (Nat.not_lt_zero _)
  | n + 1, i, h => by
    have lt := mkZ_lt (X := X) n
    rw [mkZ]
    by_cases e : i = n
    · subst e
      cases q : X i
      · rw [if_neg (by decide), Nat.zero_add]
        exact Nat.testBit_lt_two_pow lt
      · rw [if_pos rfl, Nat.testBit_two_pow_add_eq, Nat.testBit_lt_two_pow lt]
        rfl
    · rw [← mkZ_tb (X := X) n i (by omega)]
      split
      · exact Nat.testBit_two_pow_add_gt (by omega) _
      · rw [Nat.zero_add]
theorem mkZ_c {X : Nat → Bool} {n : Nat} : cbt n (mkZ X n) = cnt X n := cnt_eq n (fun i hi => mkZ_tb n i hi)
theorem mkZ_inj {X Y : Nat → Bool} {n : Nat} (h : mkZ X n = mkZ Y n) {i : Nat} (hi : i < n) : X i = Y i := by
  rw [← mkZ_tb (X := X) n i hi, h, mkZ_tb n i hi]
/-- the base as a set -/
def baB : Nat → lpS → Nat → Bool
  | 0, _, _ => false
  | R + 1, S, l => baB R S l || decide (sR S R = l)
theorem baB_t {l : Nat} {S : lpS} : ∀ {R : Nat}, baB R S l = true ↔ bas R S l
  | 0 => ⟨fun h => (by cases h), fun ⟨_, h, _⟩ => absurd h (Nat.not_lt_zero _)⟩
  | R + 1 => by
    rw [baB, Bool.or_eq_true, baB_t, decide_eq_true_iff]
    constructor
    · rintro (⟨r, h1, h2⟩ | h)
      · exact ⟨r, by omega, h2⟩
      · exact ⟨R, by omega, h⟩
    · rintro ⟨r, h1, h2⟩
      by_cases e : r = R
      · subst e
        exact Or.inr h2
      · exact Or.inl ⟨r, by omega, h2⟩
theorem baB_le {R C : Nat} {a : Nat → Nat → Int} {S : lpS} (h : lpI a R C S) : cnt (baB R S) (C + R) ≤ R := by
  have ex : ∀ l, ∃ r, bas R S l → r < R ∧ sR S r = l := fun l => by
    by_cases z : bas R S l
    · obtain ⟨r, h1, h2⟩ := z
      exact ⟨r, fun _ => ⟨h1, h2⟩⟩
    · exact ⟨0, fun y => absurd y z⟩
  obtain ⟨f, hf⟩ : ∃ f : Nat → Nat, ∀ l, bas R S l → f l < R ∧ sR S (f l) = l := ⟨fun l => Classical.choose (ex l), fun l => Classical.choose_spec (ex l)⟩
  have := cnt_inj (X := baB R S) (f := f) (m := R) (C + R) (Y := fun _ => true) (fun i _ z => ⟨(hf i (baB_t.mp z)).1, rfl⟩) (fun i j _ _ z1 z2 e => by rw [← (hf i (baB_t.mp z1)).2, e, (hf j (baB_t.mp z2)).2])
  rw [cnt_T] at this
  exact this
theorem baB_ge {R C : Nat} {a : Nat → Nat → Int} {S : lpS} (h : lpI a R C S) : R ≤ cnt (baB R S) (C + R) := by
  have := cnt_inj (X := fun _ => true) (f := sR S) (m := C + R) R (Y := baB R S) (fun i hi _ => ⟨h.2.2.2.1.1 i hi, baB_t.mpr ⟨i, hi, rfl⟩⟩) (fun i j hi hj _ _ e => h.2.2.2.1.2.2.1 i j hi hj e)
  rw [cnt_T] at this
  exact this
/-- few rows: each base at most once -/
theorem turns2 {a : Nat → Nat → Int} {R C N : Nat} {σ : Nat → lpS} {co ro : Nat → Nat} (h : lpRun a R C N σ co ro) (hR : R ≤ 5) (hC : C + R ≤ 22) : N < 35443 := by
  have hI : ∀ k, k ≤ N → lpI a R C (σ k) := fun k hk => (h.1 k hk).1
  have := cnt_inj (X := fun _ => true) (f := fun k => mkZ (baB R (σ k)) (C + R)) (m := 2 ^ 22) (N + 1) (Y := fun x => decide (cbt 22 x ≤ 5)) (fun k hk _ => by
    have l1 := mkZ_lt (X := baB R (σ k)) (C + R)
    have l2 := Nat.pow_le_pow_right (n := 2) (by decide) hC
    refine ⟨by omega, decide_eq_true ?_⟩
    have e : cbt 22 (mkZ (baB R (σ k)) (C + R)) = cbt (C + R) (mkZ (baB R (σ k)) (C + R)) := by
      obtain ⟨d, hd⟩ : ∃ d, 22 = (C + R) + d := ⟨22 - (C + R), by omega⟩
      rw [hd]
      unfold cbt
      rw [cnt_add, cnt_0 (X := fun i => (mkZ (baB R (σ k)) (C + R)).testBit (C + R + i)) d (fun i _ => Nat.testBit_lt_two_pow (Nat.lt_of_lt_of_le l1 (Nat.pow_le_pow_right (by decide) (by omega))))]
      rfl
    rw [e, mkZ_c]
    exact Nat.le_trans (baB_le (hI k (by omega))) hR) (fun i j hi hj _ _ e => by
    have e : mkZ (baB R (σ i)) (C + R) = mkZ (baB R (σ j)) (C + R) := e
    have same : ∀ l, bas R (σ i) l ↔ bas R (σ j) l := fun l => by
      by_cases hl : l < C + R
      · rw [← baB_t, ← baB_t, mkZ_inj e hl]
      · constructor
        · rintro ⟨r, hr, rl⟩
          have := (hI i (by omega)).2.2.2.1.1 r hr
          omega
        · rintro ⟨r, hr, rl⟩
          have := (hI j (by omega)).2.2.2.1.1 r hr
          omega
    rcases Nat.lt_trichotomy i j with z | z | z
    · exact absurd same (no_cycle h z (by omega))
    · exact z
    · exact absurd (fun l => (same l).symm) (no_cycle h z (by omega)))
  rw [cnt_T] at this
  have b := cbt_n 22 5
  have v : bnK 5 22 = 35443 := by decide +kernel
  omega
/-- columns along one line are never both in the base -/
theorem par_no {a : Nat → Nat → Int} {R C : Nat} {S : lpS} (h : lpI a R C S) {l1 l2 : Nat} (hn : l1 ≠ l2) {c : Int} (hc : ∀ i, i < R → a l1 i = c * a l2 i) (b1 : bas R S l1) (b2 : bas R S l2) : False := by
  obtain ⟨r1, x1, y1⟩ := b1
  obtain ⟨r2, x2, y2⟩ := b2
  have ne : r1 ≠ r2 := fun e => hn (by rw [← y1, e, y2])
  have d0 : det R (fun j => a (sR S j)) = 0 := by
    have e1 : det R (fun j => a (sR S j)) = det R (upC (fun j => a (sR S j)) r1 (fun i => c * a l2 i + 0 * a l2 i)) := det_c R (fun j i _ hi => by
      unfold upC
      by_cases e : j = r1
      · rw [if_pos e, e, y1, hc i hi]
        show c * a l2 i = c * a l2 i + 0 * a l2 i
        rw [Int.zero_mul, Int.add_zero]
      · rw [if_neg e])
    rw [e1, det_lin R x1, det_eq (a := r1) (b := r2) x1 x2 ne (fun i _ => by
      unfold upC
      rw [if_pos rfl, if_neg (fun y => ne y.symm)]
      show a l2 i = a (sR S r2) i
      rw [y2]), Int.mul_zero, Int.zero_mul]
    rfl
  have := h.1.1
  have := h.2.1
  omega
/-- artificial labels that are out stay out -/
theorem art_st {a : Nat → Nat → Int} {R C N : Nat} {σ : Nat → lpS} {co ro : Nat → Nat} (h : lpRun a R C N σ co ro) {i l : Nat} (hl : C ≤ l) : ∀ d, i + d ≤ N → bas R (σ (i + d)) l → bas R (σ i) l
  | 0, _, hb => hb
  | d + 1, hd, hb => by
    rw [show i + (d + 1) = i + d + 1 by omega, bas_st h (by omega)] at hb
    rcases hb with z | z
    · have := (run_st h (show i + d < N by omega)).2.2.2.2.1
      omega
    · exact art_st h hl d (by omega) z.1
/-- what is out, by unknowns and rows -/
def ouB (R s : Nat) (S : lpS) (l : Nat) : Bool := !baB R S l && (decide (l < s) || !baB R S (l + R))
theorem ouB_n {a : Nat → Nat → Int} {R s : Nat} {S : lpS} (h : lpI a R (s + R) S) {c : Nat → Int} (hc : ∀ q i, q < R → i < R → a (s + q) i = c q * a (s + R + q) i) : cnt (ouB R s S) (s + R) ≤ s := by
  have ge := baB_ge h
  rw [show s + R + R = s + (R + R) by omega, cnt_add, cnt_add] at ge
  have or_ := cnt_or (X := fun i => baB R S (s + i)) (Y := fun i => baB R S (s + (R + i))) R
  have and0 : cnt (fun i => baB R S (s + i) && baB R S (s + (R + i))) R = 0 := cnt_0 R (fun i hi => by
    cases q1 : baB R S (s + i) with
    | false => rfl
    | true =>
      cases q2 : baB R S (s + (R + i)) with
      | false => rfl
      | true =>
        have b2 := baB_t.mp q2
        rw [show s + (R + i) = s + R + i by omega] at b2
        exact (par_no h (by omega) (fun j hj => hc i j hi hj) (baB_t.mp q1) b2).elim)
  have n1 := cnt_not (X := baB R S) s
  have n2 := cnt_not (X := fun i => baB R S (s + i) || baB R S (s + (R + i))) R
  have e1 : cnt (ouB R s S) s = cnt (fun i => !baB R S i) s := cnt_eq s (fun i hi => by
    unfold ouB
    rw [decide_eq_true hi]
    cases baB R S i <;> rfl)
  have e2 : cnt (fun i => ouB R s S (s + i)) R = cnt (fun i => !(baB R S (s + i) || baB R S (s + (R + i)))) R := cnt_eq R (fun i hi => by
    unfold ouB
    rw [decide_eq_false (by omega), show s + i + R = s + (R + i) by omega]
    cases baB R S (s + i) <;> cases baB R S (s + (R + i)) <;> rfl)
  rw [cnt_add, e1, e2]
  omega
theorem cnt_mul {Y : Nat → Bool} {m : Nat} : ∀ k, cnt (fun x => Y (x % m)) (k * m) = k * cnt Y m
  | 0 => by
    rw [Nat.zero_mul, Nat.zero_mul]
    rfl
  | k + 1 => by
    rw [Nat.succ_mul, cnt_add, cnt_mul k, Nat.succ_mul]
    congr 1
    exact cnt_eq m (fun i hi => by
      show Y ((k * m + i) % m) = Y i
      rw [Nat.add_comm, Nat.add_mul_mod_self_right, Nat.mod_eq_of_lt hi])
/-- few unknowns -/
theorem turns1 {a : Nat → Nat → Int} {R s N : Nat} {σ : Nat → lpS} {co ro : Nat → Nat} (h : lpRun a R (s + R) N σ co ro) {c : Nat → Int} (hc : ∀ q i, q < R → i < R → a (s + q) i = c q * a (s + R + q) i) (hR : R ≤ 13) (hs : s ≤ 4) : N < 44996 := by
  have hI : ∀ k, k ≤ N → lpI a R (s + R) (σ k) := fun k hk => (h.1 k hk).1
  have hlow : ∀ k, mkZ (ouB R s (σ k)) (s + R) < 2 ^ 17 := fun k => Nat.lt_of_lt_of_le (mkZ_lt _) (Nat.pow_le_pow_right (by decide) (by omega))
  have harts : ∀ k, cnt (fun i => baB R (σ k) (s + R + i)) R ≤ 13 := fun k => Nat.le_trans (cnt_n R) hR
  have := cnt_inj (X := fun _ => true) (f := fun k => cnt (fun i => baB R (σ k) (s + R + i)) R * 2 ^ 17 + mkZ (ouB R s (σ k)) (s + R)) (m := 14 * 2 ^ 17) (N + 1) (Y := fun x => decide (cbt 17 (x % 2 ^ 17) ≤ 4)) (fun k hk _ => by
    have l1 := hlow k
    have l2 := harts k
    refine ⟨by omega, decide_eq_true ?_⟩
    rw [Nat.add_comm, Nat.add_mul_mod_self_right, Nat.mod_eq_of_lt l1]
    have e : cbt 17 (mkZ (ouB R s (σ k)) (s + R)) = cbt (s + R) (mkZ (ouB R s (σ k)) (s + R)) := by
      obtain ⟨d, hd⟩ : ∃ d, 17 = (s + R) + d := ⟨17 - (s + R), by omega⟩
      rw [hd]
      unfold cbt
      rw [cnt_add, cnt_0 (X := fun i => (mkZ (ouB R s (σ k)) (s + R)).testBit (s + R + i)) d (fun i _ => Nat.testBit_lt_two_pow (Nat.lt_of_lt_of_le (mkZ_lt _) (Nat.pow_le_pow_right (by decide) (by omega))))]
      rfl
    rw [e, mkZ_c]
    exact Nat.le_trans (ouB_n (hI k (by omega)) hc) hs) (fun i j hi hj _ _ e => by
    have e : cnt (fun l => baB R (σ i) (s + R + l)) R * 2 ^ 17 + mkZ (ouB R s (σ i)) (s + R) = cnt (fun l => baB R (σ j) (s + R + l)) R * 2 ^ 17 + mkZ (ouB R s (σ j)) (s + R) := e
    have l1 := hlow i
    have l2 := hlow j
    have e1 : cnt (fun l => baB R (σ i) (s + R + l)) R = cnt (fun l => baB R (σ j) (s + R + l)) R := by omega
    have e2 : mkZ (ouB R s (σ i)) (s + R) = mkZ (ouB R s (σ j)) (s + R) := by omega
    -- the base by what is out
    have same : ∀ i j, i ≤ N → j ≤ N → i < j → cnt (fun l => baB R (σ i) (s + R + l)) R = cnt (fun l => baB R (σ j) (s + R + l)) R → mkZ (ouB R s (σ i)) (s + R) = mkZ (ouB R s (σ j)) (s + R) → False := fun i j hi hj ij e1 e2 => by
      have art : ∀ l, l < R → baB R (σ i) (s + R + l) = baB R (σ j) (s + R + l) := fun l hl => by
        have sub : ∀ l, baB R (σ j) (s + R + l) = true → baB R (σ i) (s + R + l) = true := fun l z => by
          have := art_st h (i := i) (l := s + R + l) (by omega) (j - i) (by omega)
          rw [show i + (j - i) = j by omega] at this
          exact baB_t.mpr (this (baB_t.mp z))
        cases q1 : baB R (σ j) (s + R + l) with
        | true => exact sub l q1
        | false =>
          cases q2 : baB R (σ i) (s + R + l) with
          | false => rfl
          | true =>
            have := cnt_lt (X := fun l => baB R (σ j) (s + R + l)) (Y := fun l => baB R (σ i) (s + R + l)) (fun l _ z => sub l z) hl q1 q2
            omega
      have low : ∀ l, l < s + R → baB R (σ i) l = baB R (σ j) l := fun l hl => by
        have o := mkZ_inj e2 hl
        unfold ouB at o
        by_cases z : l < s
        · rw [decide_eq_true z] at o
          revert o
          cases baB R (σ i) l <;> cases baB R (σ j) l <;> simp
        · obtain ⟨q, rfl⟩ : ∃ q, l = s + q := ⟨l - s, by omega⟩
          have ae := art q (by omega)
          have ex : ∀ k, k ≤ N → baB R (σ k) (s + q) = true → baB R (σ k) (s + R + q) = false := fun k hk z1 => by
            cases q2 : baB R (σ k) (s + R + q) with
            | false => rfl
            | true => exact (par_no (hI k hk) (by omega) (fun j hj => hc q j (by omega) hj) (baB_t.mp z1) (baB_t.mp q2)).elim
          have x1 := ex i hi
          have x2 := ex j hj
          rw [decide_eq_false z, show s + q + R = s + R + q by omega, ← ae] at o
          rw [← ae] at x2
          revert o x1 x2
          cases baB R (σ i) (s + q) <;> cases baB R (σ j) (s + q) <;> cases baB R (σ i) (s + R + q) <;> simp
      refine no_cycle h ij hj (fun l => ?_)
      rw [← baB_t, ← baB_t]
      by_cases l1 : l < s + R
      · rw [low l l1]
      · by_cases l2 : l < s + R + R
        · have := art (l - (s + R)) (by omega)
          rw [show s + R + (l - (s + R)) = l by omega] at this
          rw [this]
        · rw [baB_t, baB_t]
          constructor
          · rintro ⟨r, hr, rl⟩
            have := (hI i hi).2.2.2.1.1 r hr
            omega
          · rintro ⟨r, hr, rl⟩
            have := (hI j hj).2.2.2.1.1 r hr
            omega
    rcases Nat.lt_trichotomy i j with z | z | z
    · exact (same i j (by omega) (by omega) z e1 e2).elim
    · exact z
    · exact (same j i (by omega) (by omega) z e1.symm e2.symm).elim)
  rw [cnt_T] at this
  have m := cnt_mul (Y := fun x => decide (cbt 17 x ≤ 4)) (m := 2 ^ 17) 14
  have b := cbt_n 17 4
  have v : bnK 4 17 = 3214 := by decide +kernel
  omega
end
