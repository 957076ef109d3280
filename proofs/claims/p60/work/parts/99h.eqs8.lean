/-! THE PURE PART, equations: where no whole numbers fulfil the items there is a modulus below 1000. -/
section
def unit (k i : Nat) : Int := if i = k then 1 else 0
theorem unit_lin {c : Nat → Int} {k : Nat} (hk : k < 4) : dlin c (unit k) = c k := by
  rcases (by omega : k = 0 ∨ k = 1 ∨ k = 2 ∨ k = 3) with rfl | rfl | rfl | rfl <;> simp [dlin, unit]
/-- what lies within the unknowns that there are -/
def sup (s : Nat) (z : Nat → Int) : Prop := ∀ k, s ≤ k → z k = 0
theorem unit_sup {s k : Nat} (hk : k < s) : sup s (unit k) := fun i hi => if_neg (by omega)
def hitX (A : Nat → Nat → Int) (s : Nat) (R : Nat → Int) : Prop := ∃ mo : Nat, 2 ≤ mo ∧ mo ≤ 999 ∧ ∃ x y : Int, (∀ k, k < s → (mo : Int) ∣ x * A 0 k + y * A 1 k) ∧ ¬ (mo : Int) ∣ x * R 0 + y * R 1
theorem nd_small {x : Int} {n : Nat} (h0 : x ≠ 0) (h : x.natAbs < n) : ¬ (n : Int) ∣ x := fun d => by
  have := Int.natAbs_dvd_natAbs.mpr d
  rw [Int.natAbs_natCast] at this
  have := Nat.le_of_dvd (by omega) this
  omega
theorem dlin_z {a z : Nat → Int} {s : Nat} (hs : s ≤ 4) (ha : ∀ k, k < s → a k = 0) (h : ∀ k, s ≤ k → a k = 0) : dlin a z = 0 := by
  have q : ∀ k, a k = 0 := fun k => by
    by_cases e : k < s
    · exact ha k e
    · exact h k (by omega)
  unfold dlin
  rw [q, q, q, q]
  omega
theorem some_nz {a z : Nat → Int} {s : Nat} (hs : s ≤ 4) (h : ∀ k, s ≤ k → a k = 0) (hz : dlin a z ≠ 0) : ∃ k, k < s ∧ a k ≠ 0 := Classical.byContradiction fun w => hz (dlin_z hs (fun k hk => Decidable.byContradiction fun y => w ⟨k, hk, y⟩) h)
theorem nab_ge2 {x r : Int} (h0 : x ≠ 0) (h : ¬ x ∣ r) : 2 ≤ x.natAbs := by
  have : x.natAbs ≠ 1 := fun z => h (by
    have : ((x.natAbs : Nat) : Int) ∣ r := by
      rw [z]
      exact Int.one_dvd r
    exact Int.natAbs_dvd.mp this)
  omega
/-- the numbers of a row by what was gathered -/
theorem row_by {s n : Nat} {a : Nat → Int} {B : Nat → Nat → Int} (hs : s ≤ 4) (hB : spn (sup s) n B) {k : Nat} (hk : k < s) : ∃ c : Nat → Int, (∀ i, i < 4 → unit k i = dsz n (fun j => c j * B j i)) ∧ a k = dsz n (fun j => c j * dlin a (B j)) := by
  obtain ⟨c, hc⟩ := hB _ (unit_sup hk)
  have e := dlin_c (a := a) hc
  rw [dlin_sz, unit_lin (by omega)] at e
  exact ⟨c, hc, e⟩
/-- of one row alone -/
theorem mod_A {s n o : Nat} {a : Nat → Int} {B : Nat → Nat → Int} {r : Int} (hs : s ≤ 4) (hB : spn (sup s) n B) (ha : ∀ k, (a k).natAbs ≤ 6) (ha0 : ∀ k, s ≤ k → a k = 0) (hr : r.natAbs ≤ 40) (h : ((∀ i, i < n → dlin a (B i) = 0) ∧ r ≠ 0) ∨ (o < n ∧ dlin a (B o) ≠ 0 ∧ (∀ i, i < n → i ≠ o → dlin a (B i) = 0) ∧ ¬ dlin a (B o) ∣ r)) : ∃ mo : Nat, 2 ≤ mo ∧ mo ≤ 999 ∧ (∀ k, k < s → (mo : Int) ∣ a k) ∧ ¬ (mo : Int) ∣ r := by
  rcases h with ⟨h1, h2⟩ | ⟨h1, h2, h3, h4⟩
  · refine ⟨64, by omega, by omega, fun k hk => ?_, nd_small h2 (by omega)⟩
    obtain ⟨c, _, e⟩ := row_by (a := a) hs hB hk
    rw [dsz_0 n (fun i hi => by rw [h1 i hi, Int.mul_zero])] at e
    rw [e]
    exact Int.dvd_zero _
  · have dv : ∀ k, k < s → dlin a (B o) ∣ a k := fun k hk => by
      obtain ⟨c, _, e⟩ := row_by (a := a) hs hB hk
      rw [dsz_1 n h1 (fun i hi hn => by rw [h3 i hi hn, Int.mul_zero])] at e
      rw [e]
      exact Int.dvd_mul_left _ _
    refine ⟨(dlin a (B o)).natAbs, nab_ge2 h2 h4, ?_, fun k hk => Int.natAbs_dvd.mpr (dv k hk), fun z => h4 (Int.natAbs_dvd.mp z)⟩
    obtain ⟨k, k1, k2⟩ := some_nz hs ha0 h2
    have := Nat.le_of_dvd (by omega) (Int.natAbs_dvd_natAbs.mpr (dv k k1))
    have := ha k
    omega
/-- what stands behind a first row that says something: w has its divisor, the others span what it makes 0 -/
def oneD (s : Nat) (a : Nat → Int) (w : Nat → Int) (g : Int) : Prop := dlin a w = g ∧ g ≠ 0 ∧ sup s w ∧ ∀ k, k < s → ∃ c : Int, a k = c * g
theorem mod_B {s n o : Nat} {A : Nat → Nat → Int} {w : Nat → Int} {g t : Int} {B : Nat → Nat → Int} {R : Nat → Int} (hs : s ≤ 4) (hA : qA6 A s) (hR : ∀ i, i < 2 → (R i).natAbs ≤ 40) (hw : oneD s (A 0) w g) (ht : R 0 = t * g) (hB : spn (fun z => sup s z ∧ dlin (A 0) z = 0) n B) (hM : ∀ i, i < n → dlin (A 0) (B i) = 0) (h : ((∀ i, i < n → dlin (A 1) (B i) = 0) ∧ R 1 - t * dlin (A 1) w ≠ 0) ∨ (o < n ∧ dlin (A 1) (B o) ≠ 0 ∧ (∀ i, i < n → i ≠ o → dlin (A 1) (B i) = 0) ∧ ¬ dlin (A 1) (B o) ∣ R 1 - t * dlin (A 1) w)) : hitX A s R := by
  obtain ⟨w1, w2, w3, w4⟩ := hw
  obtain ⟨q, hq⟩ : ∃ q, q = dlin (A 1) w := ⟨_, rfl⟩
  have rhs : -q * R 0 + g * R 1 = g * (R 1 - t * q) := by
    rw [ht]
    grind
  -- each number of the second row
  have sec : ∀ k, k < s → ∀ c : Int, A 0 k = c * g → ∃ d : Nat → Int, A 1 k = c * q + dsz n (fun i => d i * dlin (A 1) (B i)) := fun k hk c hc => by
    have m : sup s (fun i => unit k i - c * w i) ∧ dlin (A 0) (fun i => unit k i - c * w i) = 0 := by
      refine ⟨fun i hi => ?_, ?_⟩
      · show unit k i - c * w i = 0
        rw [unit_sup hk i hi, w3 i hi]
        omega
      · rw [dlin_sub, unit_lin (by omega), w1, hc]
        omega
    obtain ⟨d, hd⟩ := hB _ m
    have e := dlin_c (a := A 1) hd
    rw [dlin_sz, dlin_sub, unit_lin (by omega), ← hq] at e
    exact ⟨d, by omega⟩
  rcases h with ⟨h1, h2⟩ | ⟨h1, h2, h3, h4⟩
  · rw [← hq] at h2
    have r0 : -q * R 0 + g * R 1 ≠ 0 := by
      rw [rhs]
      exact Int.mul_ne_zero w2 h2
    -- q is small
    obtain ⟨k, k1, k2⟩ := some_nz hs (hA.2 0) (show dlin (A 0) w ≠ 0 by rw [w1]; exact w2)
    obtain ⟨c, hc⟩ := w4 k k1
    have c0 : c ≠ 0 := fun z => k2 (by rw [hc, z, Int.zero_mul])
    obtain ⟨d, hd⟩ := sec k k1 c hc
    rw [dsz_0 n (fun i hi => by rw [h1 i hi, Int.mul_zero]), Int.add_zero] at hd
    have n1 := hA.1 1 k
    rw [hd, Int.natAbs_mul] at n1
    have n0 := hA.1 0 k
    rw [hc, Int.natAbs_mul] at n0
    have p1 : 1 * q.natAbs ≤ c.natAbs * q.natAbs := Nat.mul_le_mul_right _ (by omega)
    have p0 : 1 * g.natAbs ≤ c.natAbs * g.natAbs := Nat.mul_le_mul_right _ (by omega)
    have b0 := nab_mul6' (x := -q) (y := R 0) (by omega) (hR 0 (by omega))
    have b1 := nab_mul6' (x := g) (y := R 1) (by omega) (hR 1 (by omega))
    refine ⟨999, by omega, by omega, -q, g, fun k hk => ?_, nd_small r0 (by omega)⟩
    obtain ⟨c, hc⟩ := w4 k hk
    obtain ⟨d, hd⟩ := sec k hk c hc
    rw [dsz_0 n (fun i hi => by rw [h1 i hi, Int.mul_zero]), Int.add_zero] at hd
    rw [hc, hd, show -q * (c * g) + g * (c * q) = 0 by grind]
    exact Int.dvd_zero _
  · rw [← hq] at h4
    obtain ⟨H, hH⟩ : ∃ H, H = dlin (A 1) (B o) := ⟨_, rfl⟩
    rw [← hH] at h2 h4
    have sec2 : ∀ k, k < s → ∀ c : Int, A 0 k = c * g → ∃ d : Int, A 1 k = c * q + d * H := fun k hk c hc => by
      obtain ⟨d, hd⟩ := sec k hk c hc
      rw [dsz_1 n h1 (fun i hi hn => by rw [h3 i hi hn, Int.mul_zero]), ← hH] at hd
      exact ⟨d o, hd⟩
    have gH : g * H ≠ 0 := Int.mul_ne_zero w2 h2
    have nd : ¬ g * H ∣ -q * R 0 + g * R 1 := fun z => h4 (by
      rw [rhs] at z
      exact Int.dvd_of_mul_dvd_mul_left w2 z)
    refine ⟨(g * H).natAbs, nab_ge2 gH nd, ?_, -q, g, fun k hk => Int.natAbs_dvd.mpr ?_, fun z => nd (Int.natAbs_dvd.mp z)⟩
    · -- some minor is not 0
      have mn : ∃ k l, k < s ∧ l < s ∧ mnr A k l ≠ 0 := Classical.byContradiction fun z => by
        have z : ∀ k l, k < s → l < s → mnr A k l = 0 := fun k l hk hl => Decidable.byContradiction fun y => z ⟨k, l, hk, hl, y⟩
        have z : ∀ k l, mnr A k l = 0 := fun k l => by
          by_cases y : k < s
          · by_cases x : l < s
            · exact z k l y x
            · unfold mnr
              rw [hA.2 0 l (by omega), hA.2 1 l (by omega)]
              omega
          · unfold mnr
            rw [hA.2 0 k (by omega), hA.2 1 k (by omega)]
            omega
        obtain ⟨u, u1, u2⟩ := some_nz hs (hA.2 0) (show dlin (A 0) w ≠ 0 by rw [w1]; exact w2)
        have e : A 0 u * dlin (A 1) (B o) = A 1 u * dlin (A 0) (B o) := by
          have z0 := z u 0
          have z1 := z u 1
          have z2 := z u 2
          have z3 := z u 3
          unfold mnr at z0 z1 z2 z3
          unfold dlin
          grind
        rw [hM o h1, ← hH, Int.mul_zero] at e
        rcases Int.mul_eq_zero.mp e with y | y
        · exact u2 y
        · exact h2 y
      obtain ⟨k, l, k1, l1, m0⟩ := mn
      obtain ⟨c, hc⟩ := w4 k k1
      obtain ⟨d, hd⟩ := sec2 k k1 c hc
      obtain ⟨c', hc'⟩ := w4 l l1
      obtain ⟨d', hd'⟩ := sec2 l l1 c' hc'
      have dv : g * H ∣ mnr A k l := ⟨c * d' - c' * d, by
        unfold mnr
        rw [hc, hd, hc', hd']
        grind⟩
      have := Nat.le_of_dvd (by omega) (Int.natAbs_dvd_natAbs.mpr dv)
      have := mnr_le (k := k) (l := l) hA
      omega
    · obtain ⟨c, hc⟩ := w4 k hk
      obtain ⟨d, hd⟩ := sec2 k hk c hc
      refine ⟨d, ?_⟩
      rw [hc, hd]
      grind
end
