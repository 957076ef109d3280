/-! THE PURE PART, equations: three rows: what the old ones are of the new ones, and the new ones of the old ones. -/
section
def crs (D : Nat → Nat → Int) (i j : Nat) (v : Nat → Int) : Int := (D 1 i * D 2 j - D 2 i * D 1 j) * v 0 + (D 2 i * D 0 j - D 0 i * D 2 j) * v 1 + (D 0 i * D 1 j - D 1 i * D 0 j) * v 2
def gC (M : Int) (e : Nat → Int) (D : Nat → Nat → Int) (α0 : Nat → Int) (B0 : Nat → Nat → Int) (α : Nat → Int) (B : Nat → Nat → Int) (p i j : Nat) : Prop :=
  (e p * e p = 1 ∧ e i * e i = 1 ∧ e j * e j = 1) ∧ (0 ≤ e p * α p ∧ 0 ≤ e i * α i ∧ 0 ≤ e j * α j) ∧ (∀ k, k < 3 → (0 ≤ D k p ∧ D k p ≤ M) ∧ (0 ≤ D k i ∧ D k i ≤ M) ∧ (0 ≤ D k j ∧ D k j ≤ M)) ∧ (∀ k, k < 3 → e k * α0 k = D k p * (e p * α p) + D k i * (e i * α i) + D k j * (e j * α j)) ∧ (∀ k, k < 3 → ∀ c, e k * B0 k c = D k p * (e p * B p c) + D k i * (e i * B i c) + D k j * (e j * B j c)) ∧ (∀ c, e p * B p c = crs D i j (fun k => e k * B0 k c) ∧ e i * B i c = crs D j p (fun k => e k * B0 k c) ∧ e j * B j c = crs D p i (fun k => e k * B0 k c)) ∧ (∀ g : Int, 0 < g → (∀ k, k < 3 → g ∣ α0 k) → ∀ k, k < 3 → α0 k ≠ 0 → D k p * g ≤ e k * α0 k ∧ D k i * g ≤ e k * α0 k ∧ D k j * g ≤ e k * α0 k)
theorem gC_rot {M : Int} {e : Nat → Int} {D : Nat → Nat → Int} {α0 : Nat → Int} {B0 : Nat → Nat → Int} {α : Nat → Int} {B : Nat → Nat → Int} {p i j : Nat} (h : gC M e D α0 B0 α B p i j) : gC M e D α0 B0 α B i j p := by
  obtain ⟨⟨a1, a2, a3⟩, ⟨b1, b2, b3⟩, c, d, f, g, k⟩ := h
  refine ⟨⟨a2, a3, a1⟩, ⟨b2, b3, b1⟩, fun x hx => ⟨(c x hx).2.1, (c x hx).2.2, (c x hx).1⟩, fun x hx => ?_, fun x hx y => ?_, fun y => ⟨(g y).2.1, (g y).2.2, (g y).1⟩, fun t ht hd x hx hn => ⟨(k t ht hd x hx hn).2.1, (k t ht hd x hx hn).2.2, (k t ht hd x hx hn).1⟩⟩
  · rw [d x hx]
    omega
  · rw [f x hx y]
    omega
theorem sg_tdiv {e f a b : Int} (he : e * e = 1) (hf : f * f = 1) (ha : 0 ≤ e * a) (hb : 0 ≤ f * b) : 0 ≤ e * f * a.tdiv b := by
  have s1 : ∀ {x : Int}, x * x = 1 → x = 1 ∨ x = -1 := fun {x} h => by
    rcases Int.lt_trichotomy x 0 with z | z | z
    · right
      have : x ≤ -1 := by omega
      rcases Int.lt_or_le x (-1) with y | y
      · exfalso
        have : 2 * 2 ≤ -x * -x := Int.mul_le_mul (by omega) (by omega) (by omega) (by omega)
        rw [Int.neg_mul_neg] at this
        omega
      · omega
    · rw [z] at h
      exact absurd h (by decide)
    · left
      rcases Int.lt_or_le 1 x with y | y
      · exfalso
        have : 2 * 2 ≤ x * x := Int.mul_le_mul (by omega) (by omega) (by omega) (by omega)
        omega
      · omega
  rcases s1 he with rfl | rfl <;> rcases s1 hf with rfl | rfl
  · rw [Int.one_mul] at ha hb
    have := Int.tdiv_nonneg ha hb
    omega
  · rw [Int.one_mul] at ha
    have := Int.tdiv_nonneg ha hb
    rw [Int.neg_mul, Int.one_mul, Int.tdiv_neg] at this
    omega
  · rw [Int.one_mul] at hb
    have := Int.tdiv_nonneg ha hb
    rw [Int.neg_mul, Int.one_mul, Int.neg_tdiv] at this
    omega
  · have := Int.tdiv_nonneg ha hb
    rw [Int.neg_mul, Int.one_mul, Int.neg_mul, Int.one_mul, Int.neg_tdiv, Int.tdiv_neg] at this
    omega
theorem crs_a {D D' : Nat → Nat → Int} {p i j : Nat} {q r : Int} {v : Nat → Int} (hp : ∀ k, D' k p = D k p + q * D k i + r * D k j) (hi : ∀ k, D' k i = D k i) (hj : ∀ k, D' k j = D k j) : crs D' i j v = crs D i j v ∧ crs D' j p v = crs D j p v - q * crs D i j v ∧ crs D' p i v = crs D p i v - r * crs D i j v := by
  unfold crs
  simp only [hp, hi, hj]
  refine ⟨trivial, ?_, ?_⟩ <;> grind
theorem gC_st {M : Int} {e : Nat → Int} {D : Nat → Nat → Int} {α0 : Nat → Int} {B0 : Nat → Nat → Int} {α : Nat → Int} {B : Nat → Nat → Int} {p i j n : Nat} (h : gC M e D α0 B0 α B p i j) (hM : ∀ k, k < 3 → e k * α0 k ≤ M) (hp : α p ≠ 0) (hpi : i ≠ p) (hpj : j ≠ p) (hi : n ≤ i → α i = 0) (hj : n ≤ j → α j = 0) (hg : ∀ g : Int, (∀ k, k < 3 → g ∣ α0 k) → g ∣ α p) : ∃ D', gC M e D' α0 B0 (tkA n p α) (tkB n p α B) p i j := by
  obtain ⟨⟨a1, a2, a3⟩, ⟨b1, b2, b3⟩, c, d, f, g, k⟩ := h
  have tA : ∀ l, l ≠ p → (n ≤ l → α l = 0) → tkA n p α l = α l - (α l).tdiv (α p) * α p ∧ ∀ c, tkB n p α B l c = B l c - (α l).tdiv (α p) * B p c := fun l h1 h2 => by
    by_cases z : l < n
    · exact ⟨if_pos ⟨z, h1⟩, fun c => if_pos ⟨z, h1⟩⟩
    · have z0 := h2 (by omega)
      unfold tkA tkB
      rw [if_neg (fun w => z w.1), z0, Int.zero_tdiv]
      refine ⟨by omega, fun c => ?_⟩
      rw [if_neg (fun w => z w.1)]
      omega
  obtain ⟨ai, bi⟩ := tA i hpi hi
  obtain ⟨aj, bj⟩ := tA j hpj hj
  obtain ⟨ap, bp⟩ := tk_self (n := n) (o := p) (α := α) (B := B)
  generalize hq : e i * e p * (α i).tdiv (α p) = q
  generalize hr : e j * e p * (α j).tdiv (α p) = r
  have q0 : 0 ≤ q := by rw [← hq]; exact sg_tdiv a2 a1 b2 b1
  have r0 : 0 ≤ r := by rw [← hr]; exact sg_tdiv a3 a1 b3 b1
  have bp1 : 1 ≤ e p * α p := by
    rcases Int.lt_or_le 0 (e p * α p) with z | z
    · omega
    · have z : e p * α p = 0 := by omega
      rcases Int.mul_eq_zero.mp z with y | y
      · rw [y] at a1
        exact absurd a1 (by decide)
      · exact absurd y hp
  have ui : e i * tkA n p α i = e i * α i - q * (e p * α p) := by rw [ai, ← hq]; grind
  have uj : e j * tkA n p α j = e j * α j - r * (e p * α p) := by rw [aj, ← hr]; grind
  have wi : ∀ c, e i * tkB n p α B i c = e i * B i c - q * (e p * B p c) := fun c => by rw [bi, ← hq]; grind
  have wj : ∀ c, e j * tkB n p α B j c = e j * B j c - r * (e p * B p c) := fun c => by rw [bj, ← hr]; grind
  have ni : 0 ≤ e i * tkA n p α i := by
    rw [ai]
    have m := Int.tmod_add_mul_tdiv (α i) (α p)
    have e1 : α i - (α i).tdiv (α p) * α p = (α i).tmod (α p) := by rw [Int.tmod_def]; grind
    rw [e1]
    rcases Int.lt_or_le (α i) 0 with z | z
    · have : (α i).tmod (α p) ≤ 0 := by
        have y := Int.tmod_nonneg (α p) (show 0 ≤ -α i by omega)
        rw [Int.neg_tmod] at y
        omega
      have en : e i ≤ 0 := Int.not_lt.mp fun w => by
        have := Int.mul_neg_of_pos_of_neg w z
        omega
      exact Int.mul_nonneg_of_nonpos_of_nonpos en this
    · have y := Int.tmod_nonneg (α p) z
      rcases Int.lt_or_le 0 (α i) with w | w
      · have en : 0 ≤ e i := Int.not_lt.mp fun v => by
          have := Int.mul_neg_of_neg_of_pos v w
          omega
        exact Int.mul_nonneg en y
      · rw [show α i = 0 by omega, Int.zero_tmod]
        omega
  have nj : 0 ≤ e j * tkA n p α j := by
    rw [aj]
    have e1 : α j - (α j).tdiv (α p) * α p = (α j).tmod (α p) := by rw [Int.tmod_def]; grind
    rw [e1]
    rcases Int.lt_or_le (α j) 0 with z | z
    · have : (α j).tmod (α p) ≤ 0 := by
        have y := Int.tmod_nonneg (α p) (show 0 ≤ -α j by omega)
        rw [Int.neg_tmod] at y
        omega
      have en : e j ≤ 0 := Int.not_lt.mp fun w => by
        have := Int.mul_neg_of_pos_of_neg w z
        omega
      exact Int.mul_nonneg_of_nonpos_of_nonpos en this
    · have y := Int.tmod_nonneg (α p) z
      rcases Int.lt_or_le 0 (α j) with w | w
      · have en : 0 ≤ e j := Int.not_lt.mp fun v => by
          have := Int.mul_neg_of_neg_of_pos v w
          omega
        exact Int.mul_nonneg en y
      · rw [show α j = 0 by omega, Int.zero_tmod]
        omega
  let D' : Nat → Nat → Int := fun k l => if l = p then D k p + q * D k i + r * D k j else D k l
  have dp : ∀ k, D' k p = D k p + q * D k i + r * D k j := fun k => if_pos rfl
  have di : ∀ k, D' k i = D k i := fun k => if_neg hpi
  have dj : ∀ k, D' k j = D k j := fun k => if_neg hpj
  have dn : ∀ k, k < 3 → 0 ≤ D' k p := fun k hk => by
    rw [dp]
    obtain ⟨x1, x2, x3⟩ := c k hk
    have := Int.mul_nonneg q0 x2.1
    have := Int.mul_nonneg r0 x3.1
    omega
  have dsum : ∀ k, k < 3 → e k * α0 k = D' k p * (e p * tkA n p α p) + D' k i * (e i * tkA n p α i) + D' k j * (e j * tkA n p α j) := fun k hk => by
    rw [dp, di, dj, ui, uj, ap, d k hk]
    grind
  have dle : ∀ k, k < 3 → D' k p * (e p * α p) ≤ e k * α0 k := fun k hk => by
    have s := dsum k hk
    rw [ap, di, dj] at s
    obtain ⟨x1, x2, x3⟩ := c k hk
    have := Int.mul_nonneg x2.1 ni
    have := Int.mul_nonneg x3.1 nj
    omega
  refine ⟨D', ⟨a1, a2, a3⟩, ⟨by rw [ap]; exact b1, ni, nj⟩, fun k hk => ?_, dsum, fun k hk c => ?_, fun c => ?_, fun t ht hd k' hk hn => ?_⟩
  · obtain ⟨x1, x2, x3⟩ := c k hk
    refine ⟨⟨dn k hk, ?_⟩, by rw [di]; exact x2, by rw [dj]; exact x3⟩
    have l1 := dle k hk
    have l2 := hM k hk
    have l3 : D' k p * 1 ≤ D' k p * (e p * α p) := Int.mul_le_mul_of_nonneg_left bp1 (dn k hk)
    omega
  · rw [dp, di, dj, wi, wj, bp, f k hk c]
    grind
  · obtain ⟨g1, g2, g3⟩ := g c
    obtain ⟨k1, k2, k3⟩ := crs_a (v := fun k => e k * B0 k c) dp di dj
    rw [k1, k2, k3, wi, wj, bp, ← g1, ← g2, ← g3]
    exact ⟨rfl, rfl, rfl⟩
  · obtain ⟨_, k2, k3⟩ := k t ht hd k' hk hn
    refine ⟨?_, by rw [di]; exact k2, by rw [dj]; exact k3⟩
    have l1 := dle k' hk
    have dv : t ∣ e p * α p := Int.dvd_mul_of_dvd_right (hg t hd)
    have l2 := Int.le_of_dvd (by omega) dv
    have l3 := Int.mul_le_mul_of_nonneg_left l2 (dn k' hk)
    omega
theorem tkA_dvd {n o i : Nat} {α : Nat → Int} {g : Int} (h : ∀ i, g ∣ α i) : g ∣ tkA n o α i := by
  unfold tkA
  by_cases e : i < n ∧ i ≠ o
  · rw [if_pos e]
    exact Int.dvd_sub (h i) (Int.dvd_mul_of_dvd_right (h o))
  · rw [if_neg e]
    exact h i
theorem gtS_dvd {n : Nat} {α0 α : Nat → Int} {B0 B : Nat → Nat → Int} {g : Int} (h0 : ∀ i, g ∣ α0 i) (h : gtS n α0 B0 α B) : ∀ i, g ∣ α i := by
  induction h using gtS_ind with
  | rf => exact h0
  | st _ _ ih => exact fun i => tkA_dvd ih
def sgn (x : Int) : Int := if x < 0 then -1 else 1
theorem sgn_sq (x : Int) : sgn x * sgn x = 1 := by
  unfold sgn
  by_cases h : x < 0
  · rw [if_pos h]; rfl
  · rw [if_neg h]; rfl
theorem sgn_ab (x : Int) : sgn x * x = x.natAbs := by
  unfold sgn
  by_cases h : x < 0
  · rw [if_pos h]; omega
  · rw [if_neg h]; omega
def idD (k j : Nat) : Int := if k = j then 1 else 0
theorem gC_rf {M : Int} {α0 : Nat → Int} {B0 : Nat → Nat → Int} (hM : 1 ≤ M) : gC M (fun k => sgn (α0 k)) idD α0 B0 α0 B0 0 1 2 := by
  have ab := fun k => sgn_ab (α0 k)
  refine ⟨⟨sgn_sq _, sgn_sq _, sgn_sq _⟩, ⟨?_, ?_, ?_⟩, fun k hk => ?_, fun k hk => ?_, fun k hk c => ?_, fun c => ?_, fun g hg hd k hk hn => ?_⟩
  · rw [ab]; omega
  · rw [ab]; omega
  · rw [ab]; omega
  · have q : ∀ j, 0 ≤ idD k j ∧ idD k j ≤ M := fun j => by
      unfold idD
      by_cases e : k = j
      · rw [if_pos e]; omega
      · rw [if_neg e]; omega
    exact ⟨q 0, q 1, q 2⟩
  · rcases (by omega : k = 0 ∨ k = 1 ∨ k = 2) with rfl | rfl | rfl <;> simp [idD]
  · rcases (by omega : k = 0 ∨ k = 1 ∨ k = 2) with rfl | rfl | rfl <;> simp [idD]
  · simp [idD, crs]
  · have l := Int.le_of_dvd (by rw [ab]; omega) (Int.dvd_mul_of_dvd_right (b := sgn (α0 k)) (hd k hk))
    have q : ∀ j, idD k j * g ≤ sgn (α0 k) * α0 k := fun j => by
      unfold idD
      by_cases e : k = j
      · rw [if_pos e]; omega
      · rw [if_neg e]; omega
    exact ⟨q 0, q 1, q 2⟩
theorem gtS_3 {n : Nat} {M : Int} {α0 α : Nat → Int} {B0 B : Nat → Nat → Int} (hn : n ≤ 3) (hM1 : 1 ≤ M) (hM : ∀ k, k < 3 → ((α0 k).natAbs : Int) ≤ M) (hz : ∀ i, n ≤ i → α0 i = 0) (h : gtS n α0 B0 α B) : ∃ D, gC M (fun k => sgn (α0 k)) D α0 B0 α B 0 1 2 := by
  induction h using gtS_ind with
  | rf => exact ⟨_, gC_rf hM1⟩
  | @st α B o a g ih =>
    obtain ⟨D, ih⟩ := ih
    have hM' : ∀ k, k < 3 → sgn (α0 k) * α0 k ≤ M := fun k hk => by rw [sgn_ab]; exact hM k hk
    have z : ∀ i, n ≤ i → α i = 0 := fun i hi => gtS_z (hz i hi) a
    have dv : ∀ g : Int, (∀ k, k < 3 → g ∣ α0 k) → g ∣ α o := fun g hd => gtS_dvd (fun i => by
      by_cases e : i < 3
      · exact hd i e
      · rw [hz i (by omega)]
        exact Int.dvd_zero g) a o
    have o1 := g.1
    rcases (by omega : o = 0 ∨ o = 1 ∨ o = 2) with rfl | rfl | rfl
    · exact gC_st ih hM' g.2.1 (by omega) (by omega) (z 1) (z 2) dv
    · obtain ⟨D', k⟩ := gC_st (n := n) (gC_rot ih) hM' g.2.1 (by omega) (by omega) (z 2) (z 0) dv
      exact ⟨D', gC_rot (gC_rot k)⟩
    · obtain ⟨D', k⟩ := gC_st (n := n) (gC_rot (gC_rot ih)) hM' g.2.1 (by omega) (by omega) (z 0) (z 1) dv
      exact ⟨D', gC_rot k⟩
theorem nab_sg {e x : Int} (h : e * e = 1) : (e * x).natAbs = x.natAbs := by
  have h2 := congrArg Int.natAbs h
  rw [Int.natAbs_mul] at h2
  have : e.natAbs = 1 := by
    rcases (by omega : e.natAbs = 0 ∨ e.natAbs = 1 ∨ 2 ≤ e.natAbs) with y | y | y
    · rw [y] at h2
      exact absurd h2 (by decide)
    · exact y
    · have := Nat.mul_le_mul y y
      have h2 : e.natAbs * e.natAbs = 1 := h2
      omega
  rw [Int.natAbs_mul, this, Nat.one_mul]
theorem nab_dif {a b c d M : Int} (ha : 0 ≤ a ∧ a ≤ M) (hb : 0 ≤ b ∧ b ≤ M) (hc : 0 ≤ c ∧ c ≤ M) (hd : 0 ≤ d ∧ d ≤ M) : ((a * b - c * d).natAbs : Int) ≤ M * M := by
  have h1 := Int.mul_le_mul ha.2 hb.2 hb.1 (by omega)
  have h2 := Int.mul_le_mul hc.2 hd.2 hd.1 (by omega)
  have h3 := Int.mul_nonneg ha.1 hb.1
  have h4 := Int.mul_nonneg hc.1 hd.1
  omega
theorem crs_le {D : Nat → Nat → Int} {i j : Nat} {v : Nat → Int} {M : Int} {X : Nat} (hi : ∀ k, k < 3 → 0 ≤ D k i ∧ D k i ≤ M) (hj : ∀ k, k < 3 → 0 ≤ D k j ∧ D k j ≤ M) (hv : ∀ k, k < 3 → (v k).natAbs ≤ X) : ((crs D i j v).natAbs : Int) ≤ M * M * X + M * M * X + M * M * X := by
  have t : ∀ {a x : Int}, (a.natAbs : Int) ≤ M * M → x.natAbs ≤ X → ((a * x).natAbs : Int) ≤ M * M * X := fun {a x} h1 h2 => by
    rw [Int.natAbs_mul, Int.natCast_mul]
    exact Int.mul_le_mul h1 (by omega) (by omega) (by omega)
  have h0 := t (nab_dif (hi 1 (by omega)) (hj 2 (by omega)) (hi 2 (by omega)) (hj 1 (by omega))) (hv 0 (by omega))
  have h1 := t (nab_dif (hi 2 (by omega)) (hj 0 (by omega)) (hi 0 (by omega)) (hj 2 (by omega))) (hv 1 (by omega))
  have h2 := t (nab_dif (hi 0 (by omega)) (hj 1 (by omega)) (hi 1 (by omega)) (hj 0 (by omega))) (hv 2 (by omega))
  unfold crs
  omega
/-- three rows at most: how large the numbers get -/
theorem gtS_big {n X m : Nat} {α0 α : Nat → Int} {B0 B : Nat → Nat → Int} (hn : n ≤ 3) (hm : 1 ≤ m) (hM : ∀ k, k < 3 → (α0 k).natAbs ≤ m) (hz : ∀ i, n ≤ i → α0 i = 0) (hX : ∀ k c, k < 3 → c < 4 → (B0 k c).natAbs ≤ X) (h : gtS n α0 B0 α B) : ∀ i c, i < 3 → c < 4 → (B i c).natAbs ≤ 3 * (m * m * X) := by
  obtain ⟨D, hC⟩ := gtS_3 (M := (m : Int)) hn (by omega) (fun k hk => by have := hM k hk; omega) hz h
  obtain ⟨⟨a1, a2, a3⟩, _, c, _, _, g, _⟩ := hC
  have V : ∀ c, c < 4 → ∀ k, k < 3 → (sgn (α0 k) * B0 k c).natAbs ≤ X := fun c hc k hk => by
    rw [nab_sg (sgn_sq _)]
    exact hX k c hk hc
  intro i y hi hy
  have e : (((3 * (m * m * X) : Nat)) : Int) = (m : Int) * m * X + m * m * X + m * m * X := by
    rw [Int.natCast_mul, Int.natCast_mul, Int.natCast_mul]
    omega
  obtain ⟨g1, g2, g3⟩ := g y
  rcases (by omega : i = 0 ∨ i = 1 ∨ i = 2) with rfl | rfl | rfl
  · rw [← nab_sg (x := B 0 y) a1, g1]
    have := crs_le (v := fun k => sgn (α0 k) * B0 k y) (X := X) (fun k hk => (c k hk).2.1) (fun k hk => (c k hk).2.2) (V y hy)
    exact Int.ofNat_le.mp (by rw [e]; exact this)
  · rw [← nab_sg (x := B 1 y) a2, g2]
    have := crs_le (v := fun k => sgn (α0 k) * B0 k y) (X := X) (fun k hk => (c k hk).2.2) (fun k hk => (c k hk).1) (V y hy)
    exact Int.ofNat_le.mp (by rw [e]; exact this)
  · rw [← nab_sg (x := B 2 y) a3, g3]
    have := crs_le (v := fun k => sgn (α0 k) * B0 k y) (X := X) (fun k hk => (c k hk).1) (fun k hk => (c k hk).2.1) (V y hy)
    exact Int.ofNat_le.mp (by rw [e]; exact this)
def cutB (n : Nat) (B : Nat → Nat → Int) (i k : Nat) : Int := if i < n then B i k else 0
theorem gtS_cut {n : Nat} {α0 α : Nat → Int} {B0 B : Nat → Nat → Int} (h : gtS n α0 B0 α B) : gtS n α0 (cutB n B0) α (cutB n B) := by
  induction h using gtS_ind with
  | rf => exact gtS.rf
  | @st α B o _ g ih =>
    have e : cutB n (tkB n o α B) = tkB n o α (cutB n B) := by
      funext i k
      show (if i < n then tkB n o α B i k else 0) = if i < n ∧ i ≠ o then (if i < n then B i k else 0) - (α i).tdiv (α o) * (if o < n then B o k else 0) else (if i < n then B i k else 0)
      unfold tkB
      by_cases y : i < n
      · rw [if_pos y, if_pos y, if_pos g.1]
      · rw [if_neg y, if_neg (fun z => y z.1), if_neg y]
    rw [e]
    exact gtS.st ih g
theorem two_le {a b x y z : Int} (h : x = a * y + b * z) (ha : 1 ≤ a) (hb : 0 ≤ b) (hab : b ≤ a) : y.natAbs ≤ x.natAbs + z.natAbs := by
  have e : a * y = x - b * z := by omega
  have n1 := congrArg Int.natAbs e
  rw [Int.natAbs_mul] at n1
  have n2 := nab_sub (x := x) (y := z) (t := b)
  have n3 : b.natAbs * z.natAbs ≤ a.natAbs * z.natAbs := Nat.mul_le_mul_right _ (by omega)
  have n4 : a.natAbs * y.natAbs ≤ a.natAbs * (x.natAbs + z.natAbs) := by
    rw [Nat.mul_add]
    have : 1 * x.natAbs ≤ a.natAbs * x.natAbs := Nat.mul_le_mul_right _ (by omega)
    omega
  exact Nat.le_of_mul_le_mul_left n4 (by omega)
/-- two rows, at the end: the one that has an amount is no larger than an old one and the other together -/
theorem gtS_two {α0 α : Nat → Int} {B0 B : Nat → Nat → Int} {o j : Nat} (ho : o < 2) (hj : j < 2) (hoj : j ≠ o) (h0 : α o ≠ 0) (h1 : α j = 0) (hz : ∀ i, 2 ≤ i → α0 i = 0) (h : gtS 2 α0 B0 α B) : ∃ k, k < 2 ∧ ∀ c, (B o c).natAbs ≤ (B0 k c).natAbs + (B j c).natAbs := by
  obtain ⟨m, hm⟩ : ∃ m, m = 1 + (α0 0).natAbs + (α0 1).natAbs := ⟨_, rfl⟩
  have z2 := hz 2 (by omega)
  obtain ⟨D, hC⟩ := gtS_3 (M := (m : Int)) (n := 2) (by omega) (by omega) (fun k hk => by
    rcases (by omega : k = 0 ∨ k = 1 ∨ k = 2) with rfl | rfl | rfl
    · omega
    · omega
    · rw [z2]
      show ((0 : Nat) : Int) ≤ _
      omega) hz (gtS_cut h)
  obtain ⟨⟨a1, a2, a3⟩, b, c, d, f, _, k4⟩ := hC
  have y2 : α 2 = 0 := gtS_z z2 h
  have le := gtS_le (i := o) h
  have z0 : α0 o ≠ 0 := fun e => by
    rw [e] at le
    have : (0 : Int).natAbs = 0 := rfl
    omega
  have w2 : ∀ c, cutB 2 B 2 c = 0 := fun c => if_neg (by omega)
  have w0 : ∀ i c, i < 2 → cutB 2 B i c = B i c := fun i c hi => if_pos hi
  have v0 : ∀ i c, i < 2 → cutB 2 B0 i c = B0 i c := fun i c hi => if_pos hi
  have main : ∀ (o j : Nat), o < 2 → j < 2 → α o ≠ 0 → α j = 0 → α0 o ≠ 0 → 0 ≤ sgn (α0 o) * α o → (∀ k, k < 3 → 0 ≤ D k o ∧ 0 ≤ D k j) → (∀ k, k < 3 → sgn (α0 k) * α0 k = D k o * (sgn (α0 o) * α o)) → (∀ c, sgn (α0 o) * B0 o c = D o o * (sgn (α0 o) * B o c) + D o j * (sgn (α0 j) * B j c)) → (∀ g : Int, 0 < g → (∀ k, k < 3 → g ∣ α0 k) → D o j * g ≤ sgn (α0 o) * α0 o) → ∀ c, (B o c).natAbs ≤ (B0 o c).natAbs + (B j c).natAbs := by
    intro o j ho hj h0 h1 z0 p1 p2 p3 p4 p5 c
    have gp : 0 < sgn (α0 o) * α o := by
      rcases Int.lt_or_le 0 (sgn (α0 o) * α o) with w | w
      · exact w
      · exfalso
        have w : sgn (α0 o) * α o = 0 := by omega
        have e1 := nab_sg (x := α o) (sgn_sq (α0 o))
        rw [w] at e1
        have : (0 : Int).natAbs = 0 := rfl
        omega
    have dv : ∀ k, k < 3 → sgn (α0 o) * α o ∣ α0 k := fun k hk => by
      have e1 : α0 k = sgn (α0 k) * (D k o * (sgn (α0 o) * α o)) := by
        rw [← p3 k hk, ← Int.mul_assoc, sgn_sq, Int.one_mul]
      rw [e1]
      exact Int.dvd_mul_of_dvd_right (Int.dvd_mul_left _ _)
    have q1 := p5 _ gp dv
    rw [p3 o (by omega)] at q1
    have q2 : D o j ≤ D o o := Int.le_of_mul_le_mul_right q1 gp
    have q3 : 1 ≤ D o o := by
      have := (p2 o (by omega)).1
      rcases Int.lt_or_le 0 (D o o) with w | w
      · omega
      · exfalso
        have w : D o o = 0 := by omega
        have e1 := p3 o (by omega)
        rw [w, Int.zero_mul] at e1
        have e2 := nab_sg (x := α0 o) (sgn_sq (α0 o))
        rw [e1] at e2
        have : (0 : Int).natAbs = 0 := rfl
        omega
    have r := two_le (p4 c) q3 (p2 o (by omega)).2 q2
    rw [nab_sg (sgn_sq _), nab_sg (sgn_sq _), nab_sg (sgn_sq _)] at r
    exact r
  refine ⟨o, ho, fun y => ?_⟩
  rcases (by omega : o = 0 ∧ j = 1 ∨ o = 1 ∧ j = 0) with ⟨rfl, rfl⟩ | ⟨rfl, rfl⟩
  · refine main 0 1 (by omega) (by omega) h0 h1 z0 b.1 (fun k hk => ⟨(c k hk).1.1, (c k hk).2.1.1⟩) (fun k hk => ?_) (fun c => ?_) (fun g hg hd => (k4 g hg hd 0 (by omega) z0).2.1) y
    · have := d k hk
      rw [h1, y2, Int.mul_zero, Int.mul_zero, Int.mul_zero, Int.mul_zero, Int.add_zero, Int.add_zero] at this
      exact this
    · have := f 0 (by omega) c
      rw [w2, w0 0 c (by omega), w0 1 c (by omega), v0 0 c (by omega), Int.mul_zero, Int.mul_zero, Int.add_zero] at this
      exact this
  · refine main 1 0 (by omega) (by omega) h0 h1 z0 b.2.1 (fun k hk => ⟨(c k hk).2.1.1, (c k hk).1.1⟩) (fun k hk => ?_) (fun c => ?_) (fun g hg hd => (k4 g hg hd 1 (by omega) z0).1) y
    · have := d k hk
      rw [h1, y2, Int.mul_zero, Int.mul_zero, Int.mul_zero, Int.mul_zero, Int.zero_add, Int.add_zero] at this
      exact this
    · have := f 1 (by omega) c
      rw [w2, w0 0 c (by omega), w0 1 c (by omega), v0 1 c (by omega), Int.mul_zero, Int.mul_zero, Int.add_zero, Int.add_comm] at this
      exact this
end
