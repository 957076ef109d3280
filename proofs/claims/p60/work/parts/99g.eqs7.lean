/-! THE PURE PART, equations: small whole numbers that fulfil all; what an unknown can be; why there is a modulus. -/
section
def lam (A : Nat → Nat → Int) (s u : Nat) (z : Nat → Int) : Prop := (∀ k, s ≤ k → z k = 0) ∧ (∀ k, k < u → z k = 0) ∧ dlin (A 0) z = 0 ∧ dlin (A 1) z = 0
/-- the numbers of the items: at most 6, none beyond the unknowns -/
def qA6 (A : Nat → Nat → Int) (s : Nat) : Prop := (∀ i k, (A i k).natAbs ≤ 6) ∧ ∀ i k, s ≤ k → A i k = 0
def mnr (A : Nat → Nat → Int) (k l : Nat) : Int := A 0 k * A 1 l - A 0 l * A 1 k
theorem nab_mul6 {x y : Int} (hx : x.natAbs ≤ 6) (hy : y.natAbs ≤ 6) : (x * y).natAbs ≤ 36 := by
  rw [Int.natAbs_mul]
  exact Nat.mul_le_mul hx hy
theorem nab_mul6' {x y : Int} (hx : x.natAbs ≤ 6) (hy : y.natAbs ≤ 40) : (x * y).natAbs ≤ 240 := by
  rw [Int.natAbs_mul]
  exact Nat.mul_le_mul hx hy
theorem mnr_le {A : Nat → Nat → Int} {s k l : Nat} (h : qA6 A s) : (mnr A k l).natAbs ≤ 72 := by
  unfold mnr
  have := nab_mul6 (h.1 0 k) (h.1 1 l)
  have := nab_mul6 (h.1 0 l) (h.1 1 k)
  omega
theorem mnr_in {A : Nat → Nat → Int} {s k l : Nat} (h : qA6 A s) (hn : mnr A k l ≠ 0) : k < s ∧ l < s := by
  constructor
  · refine Nat.lt_of_not_le fun z => hn ?_
    unfold mnr
    rw [h.2 0 k z, h.2 1 k z]
    omega
  · refine Nat.lt_of_not_le fun z => hn ?_
    unfold mnr
    rw [h.2 0 l z, h.2 1 l z]
    omega
def cyl (A : Nat → Nat → Int) (u k l i : Nat) : Int := if i = u then mnr A k l else if i = k then - mnr A u l else if i = l then mnr A u k else 0
def par (a b : Int) (u k i : Nat) : Int := if i = u then a else if i = k then b else 0
theorem par_lin {c : Nat → Int} {a b : Int} {u k : Nat} (h1 : u < k) (h2 : k < 4) : dlin c (par a b u k) = c u * a + c k * b := by
  rcases (by omega : (u = 0 ∧ k = 1) ∨ (u = 0 ∧ k = 2) ∨ (u = 0 ∧ k = 3) ∨ (u = 1 ∧ k = 2) ∨ (u = 1 ∧ k = 3) ∨ (u = 2 ∧ k = 3)) with ⟨rfl, rfl⟩ | ⟨rfl, rfl⟩ | ⟨rfl, rfl⟩ | ⟨rfl, rfl⟩ | ⟨rfl, rfl⟩ | ⟨rfl, rfl⟩ <;> simp [dlin, par]
theorem cyl_lin {A : Nat → Nat → Int} {c : Nat → Int} {u k l : Nat} (h1 : u < k) (h2 : k < l) (h3 : l < 4) : dlin c (cyl A u k l) = c u * mnr A k l - c k * mnr A u l + c l * mnr A u k := by
  rcases (by omega : (u = 0 ∧ k = 1 ∧ l = 2) ∨ (u = 0 ∧ k = 1 ∧ l = 3) ∨ (u = 0 ∧ k = 2 ∧ l = 3) ∨ (u = 1 ∧ k = 2 ∧ l = 3)) with ⟨rfl, rfl, rfl⟩ | ⟨rfl, rfl, rfl⟩ | ⟨rfl, rfl, rfl⟩ | ⟨rfl, rfl, rfl⟩ <;> simp [dlin, cyl] <;> grind
theorem dl_K {A : Nat → Nat → Int} {s u : Nat} (h : qA6 A s) (hu : u < s) (hs : s ≤ 4) : (∃ y, lam A s u y ∧ y u ≠ 0 ∧ ∀ k, (y k).natAbs ≤ 72) ∨ (∃ l m : Int, l.natAbs ≤ 6 ∧ m.natAbs ≤ 6 ∧ (∀ k, u < k → k < 4 → l * A 0 k + m * A 1 k = 0) ∧ l * A 0 u + m * A 1 u ≠ 0) := by
  by_cases h1 : ∃ k l, u < k ∧ k < l ∧ l < 4 ∧ mnr A k l ≠ 0
  · obtain ⟨k, l, k1, k2, k3, k4⟩ := h1
    have hin := mnr_in h k4
    refine Or.inl ⟨cyl A u k l, ⟨fun i hi => ?_, fun i hi => ?_, ?_, ?_⟩, ?_, fun i => ?_⟩
    · unfold cyl
      rw [if_neg (by omega), if_neg (by omega), if_neg (by omega)]
    · unfold cyl
      rw [if_neg (by omega), if_neg (by omega), if_neg (by omega)]
    · rw [cyl_lin k1 k2 k3]
      unfold mnr
      grind
    · rw [cyl_lin k1 k2 k3]
      unfold mnr
      grind
    · unfold cyl
      rw [if_pos rfl]
      exact k4
    · have a1 := mnr_le (k := k) (l := l) h
      have a2 := mnr_le (k := u) (l := l) h
      have a3 := mnr_le (k := u) (l := k) h
      unfold cyl
      by_cases e1 : i = u
      · rw [if_pos e1]; exact a1
      · rw [if_neg e1]
        by_cases e2 : i = k
        · rw [if_pos e2]; omega
        · rw [if_neg e2]
          by_cases e3 : i = l
          · rw [if_pos e3]; exact a3
          · rw [if_neg e3]; decide
  · have h1 : ∀ k l, u < k → k < l → l < 4 → mnr A k l = 0 := fun k l x y z => Decidable.byContradiction fun w => h1 ⟨k, l, x, y, z, w⟩
    have pr : ∀ (a b : Int) (k : Nat), u < k → k < s → a ≠ 0 → a.natAbs ≤ 72 → b.natAbs ≤ 72 → A 0 u * a + A 0 k * b = 0 → A 1 u * a + A 1 k * b = 0 → (∃ y, lam A s u y ∧ y u ≠ 0 ∧ ∀ k, (y k).natAbs ≤ 72) := fun a b k k1 k2 ha a1 b1 q0 q1 => by
      refine ⟨par a b u k, ⟨fun i hi => ?_, fun i hi => ?_, by rw [par_lin k1 (by omega)]; exact q0, by rw [par_lin k1 (by omega)]; exact q1⟩, ?_, fun i => ?_⟩
      · unfold par
        rw [if_neg (by omega), if_neg (by omega)]
      · unfold par
        rw [if_neg (by omega), if_neg (by omega)]
      · unfold par
        rw [if_pos rfl]
        exact ha
      · unfold par
        by_cases e1 : i = u
        · rw [if_pos e1]; exact a1
        · rw [if_neg e1]
          by_cases e2 : i = k
          · rw [if_pos e2]; exact b1
          · rw [if_neg e2]; decide
    by_cases h2 : ∃ k, u < k ∧ k < 4 ∧ (A 0 k ≠ 0 ∨ A 1 k ≠ 0)
    · obtain ⟨k, k1, k2, k3⟩ := h2
      have ks : k < s := Nat.lt_of_not_le fun z => by
        rcases k3 with w | w
        · exact w (h.2 0 k z)
        · exact w (h.2 1 k z)
      have b := fun i j => h.1 i j
      by_cases h3 : mnr A u k = 0
      · left
        unfold mnr at h3
        by_cases h4 : A 0 k = 0
        · have h5 : A 1 k ≠ 0 := k3.resolve_left (fun z => z h4)
          refine pr (A 1 k) (- A 1 u) k k1 ks h5 (by have := b 1 k; omega) (by have := b 1 u; omega) ?_ ?_
          · rw [h4] at h3 ⊢
            omega
          · grind
        · refine pr (A 0 k) (- A 0 u) k k1 ks h4 (by have := b 0 k; omega) (by have := b 0 u; omega) ?_ ?_
          · grind
          · grind
      · right
        refine ⟨A 1 k, - A 0 k, b 1 k, by have := b 0 k; omega, fun l l1 l2 => ?_, fun z => h3 ?_⟩
        · rcases Nat.lt_trichotomy k l with w | w | w
          · have := h1 k l k1 w l2
            unfold mnr at this
            grind
          · subst w
            grind
          · have := h1 l k l1 w k2
            unfold mnr at this
            grind
        · unfold mnr
          grind
    · have h2 : ∀ i k, i < 2 → u < k → k < 4 → A i k = 0 := fun i k hi x y => Decidable.byContradiction fun w => h2 ⟨k, x, y, by
        rcases (by omega : i = 0 ∨ i = 1) with rfl | rfl
        · exact Or.inl w
        · exact Or.inr w⟩
      by_cases h3 : A 0 u = 0
      · by_cases h4 : A 1 u = 0
        · left
          have q : ∀ c : Nat → Int, c u = 0 → dlin c (fun i => if i = u then 1 else 0) = 0 := fun c hc => by
            rcases (by omega : u = 0 ∨ u = 1 ∨ u = 2 ∨ u = 3) with rfl | rfl | rfl | rfl <;> simp [dlin, hc]
          refine ⟨fun i => if i = u then 1 else 0, ⟨fun i hi => if_neg (by omega), fun i hi => if_neg (by omega), q _ h3, q _ h4⟩, ?_, fun i => ?_⟩
          · show (if u = u then (1 : Int) else 0) ≠ 0
            rw [if_pos rfl]
            decide
          · show (if i = u then (1 : Int) else 0).natAbs ≤ 72
            by_cases e : i = u
            · rw [if_pos e]; decide
            · rw [if_neg e]; decide
        · right
          refine ⟨0, 1, by decide, by decide, fun k k1 k2 => ?_, by omega⟩
          rw [h2 1 k (by omega) k1 k2]
          omega
      · right
        refine ⟨1, 0, by decide, by decide, fun k k1 k2 => ?_, by omega⟩
        rw [h2 0 k (by omega) k1 k2]
        omega
def tS (P : Nat → Int) : Nat → Nat
  | 0 => 0
  | u + 1 => tS P u + (P u).natAbs
theorem sum4 {a b c d r : Int} {p q t : Nat} (h : a + b + c + d = r) (ha : a.natAbs ≤ 72 * p) (hb : b.natAbs ≤ 72 * q) (hc : c.natAbs ≤ 72 * t) (hr : r.natAbs ≤ 480) : d.natAbs ≤ 480 + 72 * (p + q + t) := by omega
/-- whole numbers that fulfil all, and are small where they can be: they are small -/
theorem lst_small {A : Nat → Nat → Int} {s u : Nat} {P : Nat → Int} {R : Nat → Int} (h : qA6 A s) (hu : u < s) (hs : s ≤ 4) (hP : ∀ i, i < 2 → dlin (A i) P = R i) (hR : ∀ i, i < 2 → (R i).natAbs ≤ 40) (hl : ∀ z, lam A s u z → z u ≠ 0 → 2 * (P u).natAbs ≤ (z u).natAbs) : (P u).natAbs ≤ 480 + 72 * tS P u := by
  rcases dl_K h hu hs with ⟨y, y1, y2, y3⟩ | ⟨l, m, l1, m1, k1, k2⟩
  · have := hl y y1 y2
    have := y3 u
    omega
  · have e0 := hP 0 (by omega)
    have e1 := hP 1 (by omega)
    have r0 := nab_mul6' l1 (hR 0 (by omega))
    have r1 := nab_mul6' m1 (hR 1 (by omega))
    have w : ∀ k, (l * A 0 k + m * A 1 k).natAbs ≤ 72 := fun k => by
      have := nab_mul6 l1 (h.1 0 k)
      have := nab_mul6 m1 (h.1 1 k)
      omega
    have tot : (l * A 0 0 + m * A 1 0) * P 0 + (l * A 0 1 + m * A 1 1) * P 1 + (l * A 0 2 + m * A 1 2) * P 2 + (l * A 0 3 + m * A 1 3) * P 3 = l * R 0 + m * R 1 := by
      rw [← e0, ← e1]
      unfold dlin
      grind
    have t : ∀ k, ((l * A 0 k + m * A 1 k) * P k).natAbs ≤ 72 * (P k).natAbs := fun k => by
      rw [Int.natAbs_mul]
      exact Nat.mul_le_mul_right _ (w k)
    have big : ∀ {x p : Int}, x ≠ 0 → p.natAbs ≤ (x * p).natAbs := fun {x p} hx => by
      rw [Int.natAbs_mul]
      have : 1 * p.natAbs ≤ x.natAbs * p.natAbs := Nat.mul_le_mul_right _ (by omega)
      omega
    have bg := big (p := P u) k2
    have z : ∀ k, u < k → k < 4 → (l * A 0 k + m * A 1 k) * P k = 0 := fun k x y => by rw [k1 k x y, Int.zero_mul]
    have rr : (l * R 0 + m * R 1).natAbs ≤ 480 := by
      generalize l * R 0 = a at r0
      generalize m * R 1 = b at r1
      omega
    rcases (by omega : u = 0 ∨ u = 1 ∨ u = 2 ∨ u = 3) with rfl | rfl | rfl | rfl
    · rw [z 1 (by omega) (by omega), z 2 (by omega) (by omega), z 3 (by omega) (by omega)] at tot
      exact Nat.le_trans bg (sum4 (p := 0) (q := 0) (t := 0) (a := 0) (b := 0) (c := 0) (by omega) (by decide) (by decide) (by decide) rr)
    · rw [z 2 (by omega) (by omega), z 3 (by omega) (by omega)] at tot
      have := sum4 (p := (P 0).natAbs) (q := 0) (t := 0) (b := 0) (c := 0) (d := (l * A 0 1 + m * A 1 1) * P 1) (r := l * R 0 + m * R 1) (by omega) (t 0) (by decide) (by decide) rr
      simp only [tS]
      omega
    · rw [z 3 (by omega) (by omega)] at tot
      have := sum4 (p := (P 0).natAbs) (q := (P 1).natAbs) (t := 0) (c := 0) (d := (l * A 0 2 + m * A 1 2) * P 2) (r := l * R 0 + m * R 1) (by omega) (t 0) (t 1) (by decide) rr
      simp only [tS]
      omega
    · have := sum4 tot (t 0) (t 1) (t 2) rr
      simp only [tS]
      omega
theorem lam_gap {A : Nat → Nat → Int} {s u n o : Nat} {B : Nat → Nat → Int} (h : qA6 A s) (hu : u < s) (hs : s ≤ 4) (hB : spn (lam A s u) n B) (hM : ∀ i, i < n → lam A s u (B i)) (ho : o < n) (h0 : B o u ≠ 0) (hz : ∀ i, i < n → i ≠ o → B i u = 0) : (B o u).natAbs ≤ 72 := by
  rcases dl_K h hu hs with ⟨y, y1, y2, y3⟩ | ⟨l, m, l1, m1, k1, k2⟩
  · obtain ⟨c, hc⟩ := hB y y1
    have e := hc u (by omega)
    rw [dsz_1 n ho (fun i hi hn => by rw [hz i hi hn, Int.mul_zero])] at e
    have y3 := y3 u
    rw [e, Int.natAbs_mul] at y3
    have c0 : c o ≠ 0 := fun z => y2 (by rw [e, z, Int.zero_mul])
    have : 1 * (B o u).natAbs ≤ (c o).natAbs * (B o u).natAbs := Nat.mul_le_mul_right _ (by omega)
    omega
  · exfalso
    obtain ⟨_, q1, q2, q3⟩ := hM o ho
    have tot : (l * A 0 0 + m * A 1 0) * B o 0 + (l * A 0 1 + m * A 1 1) * B o 1 + (l * A 0 2 + m * A 1 2) * B o 2 + (l * A 0 3 + m * A 1 3) * B o 3 = 0 := by
      have : l * dlin (A 0) (B o) + m * dlin (A 1) (B o) = 0 := by rw [q2, q3]; omega
      unfold dlin at this
      grind
    have z : ∀ k, u < k → k < 4 → (l * A 0 k + m * A 1 k) * B o k = 0 := fun k x y => by rw [k1 k x y, Int.zero_mul]
    have z2 : ∀ k, k < u → (l * A 0 k + m * A 1 k) * B o k = 0 := fun k x => by rw [q1 k x, Int.mul_zero]
    have fin : (l * A 0 u + m * A 1 u) * B o u = 0 := by
      rcases (by omega : u = 0 ∨ u = 1 ∨ u = 2 ∨ u = 3) with rfl | rfl | rfl | rfl
      · rw [z 1 (by omega) (by omega), z 2 (by omega) (by omega), z 3 (by omega) (by omega)] at tot
        omega
      · rw [z2 0 (by omega), z 2 (by omega) (by omega), z 3 (by omega) (by omega)] at tot
        omega
      · rw [z2 0 (by omega), z2 1 (by omega), z 3 (by omega) (by omega)] at tot
        omega
      · rw [z2 0 (by omega), z2 1 (by omega), z2 2 (by omega)] at tot
        omega
    rcases Int.mul_eq_zero.mp fin with y | y
    · exact k2 y
    · exact h0 y
/-- one row is left: it is small -/
theorem lam_one {A : Nat → Nat → Int} {s u : Nat} {B : Nat → Nat → Int} (h : qA6 A s) (hs : s ≤ 4) (hB : spn (lam A s u) 1 B) (hM : lam A s u (B 0)) : ∀ k, (B 0 k).natAbs ≤ 72 := by
  by_cases e : ∀ k, B 0 k = 0
  · intro k
    rw [e k]
    decide
  · have e : ∃ k, B 0 k ≠ 0 := Classical.byContradiction fun z => e fun k => Decidable.byContradiction fun w => z ⟨k, w⟩
    obtain ⟨k, hk⟩ := e
    have ks : k < s := Nat.lt_of_not_le fun z => hk (hM.1 k z)
    -- the first one
    have fst : ∃ v, v < s ∧ B 0 v ≠ 0 ∧ ∀ k, k < v → B 0 k = 0 := by
      have : ∀ v, v ≤ s → (∀ k, k < v → B 0 k = 0) ∨ ∃ w, w < s ∧ B 0 w ≠ 0 ∧ ∀ k, k < w → B 0 k = 0 := by
        intro v
        induction v with
        | zero => exact fun _ => Or.inl fun k hk => absurd hk (Nat.not_lt_zero _)
        | succ v ih =>
          intro hv
          rcases ih (by omega) with q | q
          · by_cases z : B 0 v = 0
            · refine Or.inl fun k hk => ?_
              by_cases y : k = v
              · rw [y]; exact z
              · exact q k (by omega)
            · exact Or.inr ⟨v, by omega, z, q⟩
          · exact Or.inr q
      rcases this s (Nat.le_refl _) with q | q
      · exact absurd (q k ks) hk
      · exact q
    obtain ⟨v, v1, v2, v3⟩ := fst
    have hB' : spn (lam A s v) 1 B := fun z hz => by
      by_cases y : u ≤ v
      · exact hB z ⟨hz.1, fun k hk => hz.2.1 k (by omega), hz.2.2⟩
      · exact absurd (hM.2.1 v (by omega)) v2
    have hM' : lam A s v (B 0) := ⟨hM.1, v3, hM.2.2⟩
    rcases dl_K h v1 hs with ⟨y, y1, y2, y3⟩ | ⟨l, m, l1, m1, k1, k2⟩
    · obtain ⟨c, hc⟩ := hB' y y1
      have hc : ∀ k, k < 4 → y k = c 0 * B 0 k := fun k hk => by
        have := hc k hk
        rw [dsz, dsz] at this
        omega
      have c0 : c 0 ≠ 0 := fun z => y2 (by rw [hc v (by omega), z, Int.zero_mul])
      intro k
      by_cases k4 : k < 4
      · have y3 := y3 k
        rw [hc k k4, Int.natAbs_mul] at y3
        have : 1 * (B 0 k).natAbs ≤ (c 0).natAbs * (B 0 k).natAbs := Nat.mul_le_mul_right _ (by omega)
        omega
      · rw [hM.1 k (by omega)]
        decide
    · exfalso
      have q := lam_gap h v1 hs hB' (fun i hi => by rw [show i = 0 by omega]; exact hM') (show 0 < 1 by omega) v2 (fun i hi hn => by omega)
      obtain ⟨_, q1, q2, q3⟩ := hM'
      have tot : (l * A 0 0 + m * A 1 0) * B 0 0 + (l * A 0 1 + m * A 1 1) * B 0 1 + (l * A 0 2 + m * A 1 2) * B 0 2 + (l * A 0 3 + m * A 1 3) * B 0 3 = 0 := by
        have : l * dlin (A 0) (B 0) + m * dlin (A 1) (B 0) = 0 := by rw [q2, q3]; omega
        unfold dlin at this
        grind
      have z : ∀ k, v < k → k < 4 → (l * A 0 k + m * A 1 k) * B 0 k = 0 := fun k x y => by rw [k1 k x y, Int.zero_mul]
      have z2 : ∀ k, k < v → (l * A 0 k + m * A 1 k) * B 0 k = 0 := fun k x => by rw [q1 k x, Int.mul_zero]
      have fin : (l * A 0 v + m * A 1 v) * B 0 v = 0 := by
        rcases (by omega : v = 0 ∨ v = 1 ∨ v = 2 ∨ v = 3) with rfl | rfl | rfl | rfl
        · rw [z 1 (by omega) (by omega), z 2 (by omega) (by omega), z 3 (by omega) (by omega)] at tot
          omega
        · rw [z2 0 (by omega), z 2 (by omega) (by omega), z 3 (by omega) (by omega)] at tot
          omega
        · rw [z2 0 (by omega), z2 1 (by omega), z 3 (by omega) (by omega)] at tot
          omega
        · rw [z2 0 (by omega), z2 1 (by omega), z2 2 (by omega)] at tot
          omega
      rcases Int.mul_eq_zero.mp fin with y | y
      · exact k2 y
      · exact v2 y
end
