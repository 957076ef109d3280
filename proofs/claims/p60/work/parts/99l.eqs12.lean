/-! THE PURE PART, equations: the point is found, or there is a modulus; the least point; sizes. -/
section
def Lit (A : Nat → Nat → Int) (s i : Nat) (z : Nat → Int) : Prop := sup s z ∧ ∀ j, j < i → dlin (A j) z = 0
theorem Lit_cl {A : Nat → Nat → Int} {s i : Nat} : clL (Lit A s i) := fun z w t hz hw => ⟨fun k hk => by
  show z k - t * w k = 0
  rw [hz.1 k hk, hw.1 k hk, Int.mul_zero]
  rfl, fun j hj => by rw [dlin_sub, hz.2 j hj, hw.2 j hj, Int.mul_zero]; rfl⟩
def rk0 (s n : Nat) (B : Nat → Nat → Int) (P : Nat → Int) : Prop := n = s ∧ (∀ j k, j < 4 → B j k = unit j k) ∧ ∀ k, P k = 0
def rk1 (A : Nat → Nat → Int) (R : Nat → Int) (s i n : Nat) (B : Nat → Nat → Int) (P : Nat → Int) : Prop := n + 1 = s ∧ 1 ≤ i ∧ (∀ j, j < n → rln (B j) ≤ 11) ∧ (∀ k, k < 4 → (P k).natAbs ≤ 440) ∧ (i = 1 → ∃ w g t, oneD s (A 0) w g ∧ R 0 = t * g ∧ ∀ k, P k = t * w k)
def rk2 (s i n : Nat) (B : Nat → Nat → Int) (P : Nat → Int) : Prop := n + 2 = s ∧ 2 ≤ i ∧ (∀ j k, j < n → k < 4 → (B j k).natAbs ≤ 143748) ∧ ∀ k, k < 4 → (P k).natAbs ≤ 1600000000
def fpI (A : Nat → Nat → Int) (R : Nat → Int) (s i n : Nat) (B : Nat → Nat → Int) (P : Nat → Int) : Prop := (∀ j, j < n → Lit A s i (B j)) ∧ spn (Lit A s i) n B ∧ (∀ j, j < i → dlin (A j) P = R j) ∧ sup s P ∧ (rk0 s n B P ∨ rk1 A R s i n B P ∨ rk2 s i n B P)
theorem rln_in {x : Nat → Int} {k m : Nat} (h : rln x ≤ m) (hk : k < 4) : (x k).natAbs ≤ m := by
  unfold rln at h
  rcases (by omega : k = 0 ∨ k = 1 ∨ k = 2 ∨ k = 3) with rfl | rfl | rfl | rfl <;> omega
theorem dlin_r {a z : Nat → Int} (ha : ∀ k, (a k).natAbs ≤ 6) : (dlin a z).natAbs ≤ 6 * rln z := by
  have t : ∀ k, (a k * z k).natAbs ≤ 6 * (z k).natAbs := fun k => by
    rw [Int.natAbs_mul]
    exact Nat.mul_le_mul_right _ (ha k)
  have := t 0
  have := t 1
  have := t 2
  have := t 3
  unfold dlin rln
  omega
theorem rln_le {z : Nat → Int} {m : Nat} (h : ∀ k, k < 4 → (z k).natAbs ≤ m) : rln z ≤ 4 * m := by
  have := h 0 (by omega)
  have := h 1 (by omega)
  have := h 2 (by omega)
  have := h 3 (by omega)
  unfold rln
  omega
theorem unit_rln (j : Nat) : rln (unit j) ≤ 1 := by
  unfold rln unit
  by_cases e0 : 0 = j
  · subst e0; decide
  · by_cases e1 : 1 = j
    · subst e1; decide
    · by_cases e2 : 2 = j
      · subst e2; decide
      · by_cases e3 : 3 = j
        · subst e3; decide
        · rw [if_neg e0, if_neg e1, if_neg e2, if_neg e3]; decide
theorem fpI_r {A : Nat → Nat → Int} {R : Nat → Int} {s i n : Nat} {B : Nat → Nat → Int} {P : Nat → Int} (hs : s ≤ 4) (h : fpI A R s i n B P) : n ≤ 4 ∧ (∀ j, j < n → rln (B j) ≤ 574992) ∧ rln P ≤ 6400000000 := by
  obtain ⟨_, _, _, _, h | h | h⟩ := h
  · refine ⟨by have := h.1; omega, fun j hj => ?_, ?_⟩
    · have := h.1
      have e : B j = unit j := funext fun k => h.2.1 j k (by omega)
      rw [e]
      exact Nat.le_trans (unit_rln j) (by decide)
    · refine Nat.le_trans (rln_le (m := 0) (fun k _ => ?_)) (by decide)
      rw [h.2.2 k]
      decide
  · refine ⟨by have := h.1; omega, fun j hj => Nat.le_trans (h.2.2.1 j hj) (by decide), Nat.le_trans (rln_le h.2.2.2.1) (by decide)⟩
  · refine ⟨by have := h.1; omega, fun j hj => Nat.le_trans (rln_le (h.2.2.1 j · hj)) (by decide), Nat.le_trans (rln_le h.2.2.2) (by decide)⟩
/-- no amount at the end: none at the beginning, no turn -/
theorem gtS_none {n : Nat} {α0 α : Nat → Int} {B0 B : Nat → Nat → Int} (h : gtS n α0 B0 α B) (hz : ∀ i, i < n → α i = 0) : α = α0 ∧ B = B0 := by
  induction h using gtS_ind with
  | rf => exact ⟨rfl, rfl⟩
  | @st α1 B1 o a g _ =>
    exfalso
    have := hz o g.1
    rw [tkA_o] at this
    exact g.2.1 this
theorem fA_lin {a : Nat → Int} {n : Nat} {B : Nat → Nat → Int} : ∀ i, i < n → fA a n B i = dlin a (B i) := fun i hi => if_pos hi
theorem fA_0 {a : Nat → Int} {n i : Nat} {B : Nat → Nat → Int} (h : n ≤ i) : fA a n B i = 0 := if_neg (by omega)
theorem dlin_add {a z w : Nat → Int} {t : Int} : dlin a (fun k => z k + t * w k) = dlin a z + t * dlin a w := by
  unfold dlin
  grind
theorem dlin_0 {a z : Nat → Int} (h : ∀ k, z k = 0) : dlin a z = 0 := by
  unfold dlin
  rw [h, h, h, h]
  omega
theorem dlin_t {a z w : Nat → Int} {t : Int} (h : ∀ k, z k = t * w k) : dlin a z = t * dlin a w := by
  unfold dlin
  rw [h, h, h, h]
  grind
theorem cut_big {n X m : Nat} {α0 α : Nat → Int} {B0 B : Nat → Nat → Int} (hn : n ≤ 3) (hm : 1 ≤ m) (hM : ∀ k, k < n → (α0 k).natAbs ≤ m) (hz : ∀ i, n ≤ i → α0 i = 0) (hX : ∀ k c, k < n → c < 4 → (B0 k c).natAbs ≤ X) (h : gtS n α0 B0 α B) : ∀ i c, i < n → c < 4 → (B i c).natAbs ≤ 3 * (m * m * X) := by
  intro i c hi hc
  have q := gtS_big (X := X) (m := m) hn hm (fun k _ => by
    by_cases e : k < n
    · exact hM k e
    · rw [hz k (by omega)]
      show 0 ≤ m
      omega) hz (fun k c _ hc => by
    unfold cutB
    by_cases e : k < n
    · rw [if_pos e]
      exact hX k c e hc
    · rw [if_neg e]
      show 0 ≤ X
      omega) (gtS_cut h) i c (by omega) hc
  unfold cutB at q
  rw [if_pos hi] at q
  exact q
theorem rmB_all {n o : Nat} {B : Nat → Nat → Int} {p : (Nat → Int) → Prop} (h : ∀ i, i < n → p (B i)) (ho : o < n) : ∀ i, i < n - 1 → p (rmB n o B i) := fun i hi => by
  by_cases e : i = o
  · rw [show rmB n o B i = B (n - 1) from funext fun k => if_pos e]
    exact h _ (by omega)
  · rw [show rmB n o B i = B i from funext fun k => if_neg e]
    exact h _ (by omega)
theorem spn_imp {L L' : (Nat → Int) → Prop} {n : Nat} {B : Nat → Nat → Int} (h : spn L n B) (k : ∀ z, L' z → L z) : spn L' n B := fun z hz => h z (k z hz)
/-- an item says nothing new -/
theorem fp_same {A : Nat → Nat → Int} {R : Nat → Int} {s i n : Nat} {α : Nat → Int} {B B' : Nat → Nat → Int} {P : Nat → Int} (h : fpI A R s i n B P) (g : gtS n (fA (A i) n B) B α B') (hz : ∀ j, j < n → α j = 0) (hm : R i - dlin (A i) P = 0) : fpI A R s (i + 1) n B' P := by
  obtain ⟨h1, h2, h3, h4, h5⟩ := h
  obtain ⟨rfl, rfl⟩ := gtS_none g hz
  refine ⟨fun j hj => ⟨(h1 j hj).1, fun l hl => ?_⟩, spn_imp h2 (fun z hz => ⟨hz.1, fun l hl => hz.2 l (by omega)⟩), fun l hl => ?_, h4, ?_⟩
  · by_cases e : l = i
    · rw [e, ← fA_lin j hj]
      exact hz j hj
    · exact (h1 j hj).2 l (by omega)
  · by_cases e : l = i
    · rw [e]
      omega
    · exact h3 l (by omega)
  · rcases h5 with q | q | q
    · exact Or.inl q
    · refine Or.inr (Or.inl ⟨q.1, by omega, q.2.2.1, q.2.2.2.1, fun e => ?_⟩)
      have := q.2.1
      omega
    · exact Or.inr (Or.inr ⟨q.1, by have := q.2.1; omega, q.2.2⟩)
theorem fp_next {A : Nat → Nat → Int} {R : Nat → Int} {s i n o : Nat} {t : Int} {α : Nat → Int} {B B' : Nat → Nat → Int} {P : Nat → Int} (hA : qA6 A s) (hs : s ≤ 4) (hi : i < 2) (hR : ∀ i, i < 2 → (R i).natAbs ≤ 40) (h : fpI A R s i n B P) (g : gtS n (fA (A i) n B) B α B') (ho : o < n) (h0 : α o ≠ 0) (hz : ∀ j, j < n → j ≠ o → α j = 0) (hm : t * α o = R i - dlin (A i) P) : fpI A R s (i + 1) (n - 1) (rmB n o B') (fun k => P k + t * B' o k) := by
  obtain ⟨n4, rB, rP⟩ := fpI_r hs h
  obtain ⟨h1, h2, h3, h4, h5⟩ := h
  have mem := gtS_mem Lit_cl h1 g
  have sp := gtS_spn h2 g
  have al := gtS_lin fA_lin g
  have t1 : t.natAbs ≤ (R i - dlin (A i) P).natAbs := by
    rw [← hm, Int.natAbs_mul]
    have : t.natAbs * 1 ≤ t.natAbs * (α o).natAbs := Nat.mul_le_mul_left _ (by omega)
    omega
  have e2 : (fun z => Lit A s i z ∧ dlin (A i) z = 0) = Lit A s (i + 1) := funext fun z => propext ⟨fun q => ⟨q.1.1, fun l hl => by
    by_cases e : l = i
    · rw [e]; exact q.2
    · exact q.1.2 l (by omega)⟩, fun q => ⟨⟨q.1, fun l hl => q.2 l (by omega)⟩, q.2 i (by omega)⟩⟩
  refine ⟨fun j hj => ?_, ?_, fun l hl => ?_, fun k hk => ?_, ?_⟩
  · have := rmB_mem (f := dlin (A i)) mem (fun j hj hn => by rw [← al j hj]; exact hz j hj hn) ho j hj
    rw [← e2]
    exact this
  · rw [← e2]
    exact rmB_spn sp (fun j hj hn => by rw [← al j hj]; exact hz j hj hn) ho (by rw [← al o ho]; exact h0)
  · rw [dlin_add]
    by_cases e : l = i
    · rw [e, ← al o ho]
      omega
    · rw [h3 l (by omega), (mem o ho).2 l (by omega), Int.mul_zero, Int.add_zero]
  · show P k + t * B' o k = 0
    rw [h4 k hk, (mem o ho).1 k hk, Int.mul_zero]
    rfl
  · have scl : ∀ {x : Int} {m c : Nat}, t.natAbs ≤ m → x.natAbs ≤ c → (t * x).natAbs ≤ m * c := fun {x m c} a b => by
      rw [Int.natAbs_mul]
      exact Nat.mul_le_mul a b
    rcases h5 with ⟨q1, q2, q3⟩ | ⟨q1, q2, q3, q4, q5⟩ | ⟨q1, q2, q3, q4⟩
    · have u := gtS_unit (α0 := fA (A i) n B) n4 (fun l => by
        unfold fA
        by_cases e : l < n
        · rw [if_pos e, show B l = unit l from funext fun k => q2 l k (by omega), unit_lin (by omega)]
          exact hA.1 i l
        · rw [if_neg e]; decide) (fun l hl => fA_0 hl) (fun l hl => by rw [show B l = unit l from funext fun k => q2 l k hl]; exact unit_rln l) g
      have p0 : dlin (A i) P = 0 := dlin_0 q3
      rw [p0, Int.sub_zero] at hm t1
      have := hR i hi
      refine Or.inr (Or.inl ⟨by omega, by omega, rmB_all (p := fun z => rln z ≤ 11) (fun l hl => u l (by omega)) ho, fun k hk => ?_, fun e => ?_⟩)
      · show (P k + t * B' o k).natAbs ≤ 440
        rw [q3 k, Int.zero_add]
        exact scl (m := 40) (by omega) (rln_in (u o (by omega)) hk)
      · have i0 : i = 0 := by omega
        subst i0
        refine ⟨B' o, α o, t, ⟨(al o ho).symm, h0, (mem o ho).1, fun k hk => ?_⟩, hm.symm, fun k => ?_⟩
        · have sp' : spn (sup s) n B' := spn_imp sp (fun z hz => ⟨hz, fun l hl => absurd hl (Nat.not_lt_zero _)⟩)
          obtain ⟨c, _, e⟩ := row_by (a := A 0) hs sp' hk
          rw [dsz_1 n ho (fun j hj hn => by rw [← al j hj, hz j hj hn, Int.mul_zero]), ← al o ho] at e
          exact ⟨c o, e⟩
        · show P k + t * B' o k = t * B' o k
          rw [q3 k, Int.zero_add]
    · clear q5
      have i1 : i = 1 := by omega
      subst i1
      have big := cut_big (m := 66) (X := 11) (α0 := fA (A 1) n B) (by omega) (by decide) (fun l hl => by
        rw [fA_lin l hl]
        have := dlin_r (z := B l) (hA.1 1)
        have := q3 l hl
        omega) (fun l hl => fA_0 hl) (fun l c hl hc => rln_in (q3 l hl) hc) g
      have rp : rln P ≤ 1760 := rln_le q4
      have dp := dlin_r (z := P) (hA.1 1)
      have r1 := hR 1 (by omega)
      refine Or.inr (Or.inr ⟨by omega, by omega, fun j k hj hk => ?_, fun k hk => ?_⟩)
      · exact rmB_all (p := fun z => (z k).natAbs ≤ 143748) (fun l hl => big l k hl hk) ho j hj
      · have a := q4 k hk
        have b := scl (m := 10600) (by omega) (big o k ho hk)
        show (P k + t * B' o k).natAbs ≤ 1600000000
        omega
    · omega
theorem fp_hit {A : Nat → Nat → Int} {R : Nat → Int} {s i n : Nat} {α : Nat → Int} {B B' : Nat → Nat → Int} {P : Nat → Int} (hA : qA6 A s) (hs : s ≤ 4) (hi : i < 2) (hR : ∀ i, i < 2 → (R i).natAbs ≤ 40) (h : fpI A R s i n B P) (g : gtS n (fA (A i) n B) B α B') (hx : ((∀ j, j < n → α j = 0) ∧ R i - dlin (A i) P ≠ 0) ∨ ∃ o, o < n ∧ α o ≠ 0 ∧ (∀ j, j < n → j ≠ o → α j = 0) ∧ ¬ α o ∣ R i - dlin (A i) P) : hitX A s R := by
  obtain ⟨h1, h2, h3, h4, h5⟩ := h
  have mem := gtS_mem Lit_cl h1 g
  have sp := gtS_spn h2 g
  have al := gtS_lin fA_lin g
  obtain ⟨o, hx'⟩ : ∃ o, ((∀ j, j < n → dlin (A i) (B' j) = 0) ∧ R i - dlin (A i) P ≠ 0) ∨ (o < n ∧ dlin (A i) (B' o) ≠ 0 ∧ (∀ j, j < n → j ≠ o → dlin (A i) (B' j) = 0) ∧ ¬ dlin (A i) (B' o) ∣ R i - dlin (A i) P) := by
    rcases hx with ⟨a, b⟩ | ⟨o, a, b, c, d⟩
    · exact ⟨0, Or.inl ⟨fun j hj => by rw [← al j hj]; exact a j hj, b⟩⟩
    · exact ⟨o, Or.inr ⟨a, by rw [← al o a]; exact b, fun j hj hn => by rw [← al j hj]; exact c j hj hn, by rw [← al o a]; exact d⟩⟩
  rcases h5 with ⟨q1, q2, q3⟩ | ⟨q1, q2, q3, q4, q5⟩ | ⟨q1, q2, q3, q4⟩
  · have p0 : dlin (A i) P = 0 := dlin_0 q3
    rw [p0, Int.sub_zero] at hx'
    have zero : ∀ l, l < i → (∀ k, k < s → A l k = 0) ∧ R l = 0 := fun l hl => by
      refine ⟨fun k hk => ?_, by rw [← h3 l hl]; exact dlin_0 q3⟩
      have := (h1 k (by omega)).2 l hl
      rw [show B k = unit k from funext fun c => q2 k c (by omega), unit_lin (by omega)] at this
      exact this
    have sp' : spn (sup s) n B' := spn_imp sp (fun z hz => ⟨hz, fun l hl => dlin_z hs (zero l hl).1 (hA.2 l)⟩)
    obtain ⟨mo, m1, m2, m3, m4⟩ := mod_A (o := o) hs sp' (hA.1 i) (hA.2 i) (hR i hi) hx'
    rcases (by omega : i = 0 ∨ i = 1) with rfl | rfl
    · refine ⟨mo, m1, m2, 1, 0, fun k hk => ?_, fun w => m4 ?_⟩
      · rw [Int.one_mul, Int.zero_mul, Int.add_zero]
        exact m3 k hk
      · rw [Int.one_mul, Int.zero_mul, Int.add_zero] at w
        exact w
    · refine ⟨mo, m1, m2, 0, 1, fun k hk => ?_, fun w => m4 ?_⟩
      · rw [Int.one_mul, Int.zero_mul, Int.zero_add]
        exact m3 k hk
      · rw [Int.one_mul, Int.zero_mul, Int.zero_add] at w
        exact w
  · have i1 : i = 1 := by omega
    subst i1
    obtain ⟨w, g', t, w1, w2, w3⟩ := q5 rfl
    rw [dlin_t w3] at hx'
    exact mod_B (o := o) hs hA hR w1 w2 (spn_imp sp (fun z hz => ⟨hz.1, fun l hl => by rw [show l = 0 by omega]; exact hz.2⟩)) (fun j hj => (mem j hj).2 0 (by omega)) hx'
  · omega
/-- the least point: what fulfils all, and is small where it can be -/
def lstP (A : Nat → Nat → Int) (R : Nat → Int) (s : Nat) (P : Nat → Int) : Prop := sup s P ∧ (∀ i, i < 2 → dlin (A i) P = R i) ∧ ∀ u, u < s → ∀ z, lam A s u z → z u ≠ 0 → -((z u).natAbs : Int) < 2 * P u ∧ 2 * P u ≤ ((z u).natAbs : Int)
theorem lst_uni {A : Nat → Nat → Int} {R : Nat → Int} {s : Nat} {P Q : Nat → Int} (h : lstP A R s P) (k : lstP A R s Q) : P = Q := by
  have main : ∀ u, u ≤ s → ∀ j, j < u → P j = Q j := by
    intro u
    induction u with
    | zero => exact fun _ j hj => absurd hj (Nat.not_lt_zero _)
    | succ u ih =>
      intro hu j hj
      by_cases e : j = u
      · subst e
        refine Decidable.byContradiction fun ne => ?_
        have m : lam A s j (fun i => P i - 1 * Q i) := ⟨fun i hi => by
          show P i - 1 * Q i = 0
          rw [h.1 i hi, k.1 i hi]
          rfl, fun i hi => by
          show P i - 1 * Q i = 0
          rw [ih (by omega) i hi]
          omega, by rw [dlin_sub, h.2.1 0 (by omega), k.2.1 0 (by omega)]; omega, by rw [dlin_sub, h.2.1 1 (by omega), k.2.1 1 (by omega)]; omega⟩
        have nz : (fun i => P i - 1 * Q i) j ≠ 0 := by
          show P j - 1 * Q j ≠ 0
          omega
        have a := h.2.2 j (by omega) _ m nz
        have b := k.2.2 j (by omega) _ m nz
        have e1 : P j - 1 * Q j = P j - Q j := by omega
        have a : -((P j - 1 * Q j).natAbs : Int) < 2 * P j ∧ 2 * P j ≤ ((P j - 1 * Q j).natAbs : Int) := a
        have b : -((P j - 1 * Q j).natAbs : Int) < 2 * Q j ∧ 2 * Q j ≤ ((P j - 1 * Q j).natAbs : Int) := b
        rw [e1] at a b
        omega
      · exact ih (by omega) j (by omega)
  funext j
  by_cases e : j < s
  · exact main s (Nat.le_refl _) j e
  · rw [h.1 j (by omega), k.1 j (by omega)]
theorem lst_32 {A : Nat → Nat → Int} {R : Nat → Int} {s : Nat} {P : Nat → Int} (hA : qA6 A s) (hs : s ≤ 4) (hR : ∀ i, i < 2 → (R i).natAbs ≤ 40) (h : lstP A R s P) : ∀ u, (P u).natAbs < 2 ^ 30 := by
  have q : ∀ u, u < s → (P u).natAbs ≤ 480 + 72 * tS P u := fun u hu => lst_small hA hu hs h.2.1 hR (fun z hz hn => by
    have := h.2.2 u hu z hz hn
    omega)
  intro u
  by_cases e : u < s
  · have e0 := fun hs' : 0 < s => q 0 hs'
    have e1 := fun hs' : 1 < s => q 1 hs'
    have e2 := fun hs' : 2 < s => q 2 hs'
    have e3 := fun hs' : 3 < s => q 3 hs'
    simp only [tS] at e0 e1 e2 e3
    rcases (by omega : u = 0 ∨ u = 1 ∨ u = 2 ∨ u = 3) with rfl | rfl | rfl | rfl
    · have := e0 e
      omega
    · have := e0 (by omega)
      have := e1 e
      omega
    · have := e0 (by omega)
      have := e1 (by omega)
      have := e2 e
      omega
    · have := e0 (by omega)
      have := e1 (by omega)
      have := e2 (by omega)
      have := e3 e
      omega
  · rw [h.1 u (by omega)]
    decide
def szB (n : Nat) (B : Nat → Nat → Int) (P : Nat → Int) : Prop := (n = 3 ∧ (∀ j, j < 3 → rln (B j) ≤ 11) ∧ ∀ k, k < 4 → (P k).natAbs ≤ 440) ∨ (n = 2 ∧ (∀ j k, j < 2 → k < 4 → (B j k).natAbs ≤ 143748) ∧ ∀ k, k < 4 → (P k).natAbs ≤ 1600000000) ∨ (n = 1 ∧ ∀ k, k < 4 → (P k).natAbs ≤ 240000000000000) ∨ (n = 0 ∧ ∀ k, k < 4 → (P k).natAbs ≤ 18000000000000000) ∨ ((∀ k, P k = 0) ∧ n ≤ 4 ∧ ∃ p : Nat → Nat, (∀ j, j < n → B j = unit (p j)) ∧ ∀ j l, j < n → l < n → p j = p l → j = l)
/-- what holds when the unknowns below u are small -/
def tbI (A : Nat → Nat → Int) (R : Nat → Int) (s u n : Nat) (B : Nat → Nat → Int) (P : Nat → Int) : Prop := (∀ j, j < n → lam A s u (B j)) ∧ spn (lam A s u) n B ∧ (∀ i, i < 2 → dlin (A i) P = R i) ∧ sup s P ∧ szB n B P ∧ ∀ v, v < u → ∀ z, lam A s v z → z v ≠ 0 → -((z v).natAbs : Int) < 2 * P v ∧ 2 * P v ≤ ((z v).natAbs : Int)
theorem szB_r {A : Nat → Nat → Int} {R : Nat → Int} {s u n : Nat} {B : Nat → Nat → Int} {P : Nat → Int} (hA : qA6 A s) (hs : s ≤ 4) (h : tbI A R s u n B P) : n ≤ 4 ∧ (∀ j k, j < n → k < 4 → (B j k).natAbs ≤ 143748) ∧ ∀ k, k < 4 → (P k).natAbs ≤ 18000000000000000 := by
  obtain ⟨h1, h2, _, _, h5, _⟩ := h
  rcases h5 with ⟨q1, q2, q3⟩ | ⟨q1, q2, q3⟩ | ⟨q1, q3⟩ | ⟨q1, q3⟩ | ⟨q3, q1, p, q2, _⟩
  · exact ⟨by omega, fun j k hj hk => Nat.le_trans (rln_in (q2 j (by omega)) hk) (by decide), fun k hk => Nat.le_trans (q3 k hk) (by decide)⟩
  · exact ⟨by omega, fun j k hj hk => q2 j k (by omega) hk, fun k hk => Nat.le_trans (q3 k hk) (by decide)⟩
  · subst q1
    exact ⟨by omega, fun j k hj hk => by rw [show j = 0 by omega]; exact Nat.le_trans (lam_one hA hs h2 (h1 0 (by omega)) k) (by decide), fun k hk => Nat.le_trans (q3 k hk) (by decide)⟩
  · exact ⟨by omega, fun j k hj hk => by omega, q3⟩
  · refine ⟨q1, fun j k hj hk => ?_, fun k hk => by rw [q3 k]; decide⟩
    rw [q2 j hj]
    exact Nat.le_trans (rln_in (unit_rln _) hk) (by decide)
theorem fp_tb {A : Nat → Nat → Int} {R : Nat → Int} {s n : Nat} {B : Nat → Nat → Int} {P : Nat → Int} (hs : s ≤ 4) (h : fpI A R s 2 n B P) : tbI A R s 0 n B P := by
  obtain ⟨h1, h2, h3, h4, h5⟩ := h
  have e : lam A s 0 = Lit A s 2 := funext fun z => propext ⟨fun q => ⟨q.1, fun j hj => by
    rcases (by omega : j = 0 ∨ j = 1) with rfl | rfl
    · exact q.2.2.1
    · exact q.2.2.2⟩, fun q => ⟨q.1, fun k hk => absurd hk (Nat.not_lt_zero _), q.2 0 (by omega), q.2 1 (by omega)⟩⟩
  refine ⟨fun j hj => by rw [e]; exact h1 j hj, by rw [e]; exact h2, h3, h4, ?_, fun v hv => absurd hv (Nat.not_lt_zero _)⟩
  rcases h5 with ⟨q1, q2, q3⟩ | ⟨q1, q2, q3, q4, q5⟩ | ⟨q1, q2, q3, q4⟩
  · exact Or.inr (Or.inr (Or.inr (Or.inr ⟨q3, by omega, fun j => j, fun j hj => funext fun k => q2 j k (by omega), fun j l _ _ e => e⟩)))
  · rcases (by omega : n = 0 ∨ n = 1 ∨ n = 2 ∨ n = 3) with rfl | rfl | rfl | rfl
    · exact Or.inr (Or.inr (Or.inr (Or.inl ⟨rfl, fun k hk => Nat.le_trans (q4 k hk) (by decide)⟩)))
    · exact Or.inr (Or.inr (Or.inl ⟨rfl, fun k hk => Nat.le_trans (q4 k hk) (by decide)⟩))
    · exact Or.inr (Or.inl ⟨rfl, fun j k hj hk => Nat.le_trans (rln_in (q3 j hj) hk) (by decide), fun k hk => Nat.le_trans (q4 k hk) (by decide)⟩)
    · exact Or.inl ⟨rfl, q3, q4⟩
  · rcases (by omega : n = 0 ∨ n = 1 ∨ n = 2) with rfl | rfl | rfl
    · exact Or.inr (Or.inr (Or.inr (Or.inl ⟨rfl, fun k hk => Nat.le_trans (q4 k hk) (by decide)⟩)))
    · exact Or.inr (Or.inr (Or.inl ⟨rfl, fun k hk => Nat.le_trans (q4 k hk) (by decide)⟩))
    · exact Or.inr (Or.inl ⟨rfl, q3, q4⟩)
theorem unit_lin2 {u : Nat} {z : Nat → Int} (hu : u < 4) : dlin (unit u) z = z u := by
  rcases (by omega : u = 0 ∨ u = 1 ∨ u = 2 ∨ u = 3) with rfl | rfl | rfl | rfl <;> simp [dlin, unit]
theorem lam_up {A : Nat → Nat → Int} {s u : Nat} (hu : u < 4) : (fun z => lam A s u z ∧ dlin (unit u) z = 0) = lam A s (u + 1) := funext fun z => propext ⟨fun q => ⟨q.1.1, fun k hk => by
  by_cases e : k = u
  · have := q.2
    rw [unit_lin2 hu] at this
    rw [e]
    exact this
  · exact q.1.2.1 k (by omega), q.1.2.2⟩, fun q => ⟨⟨q.1, fun k hk => q.2.1 k (by omega), q.2.2⟩, by rw [unit_lin2 hu]; exact q.2.1 u (by omega)⟩⟩
theorem lam_cl {A : Nat → Nat → Int} {s u : Nat} : clL (lam A s u) := fun z w t hz hw => ⟨fun k hk => by
  show z k - t * w k = 0
  rw [hz.1 k hk, hw.1 k hk, Int.mul_zero]
  rfl, fun k hk => by
  show z k - t * w k = 0
  rw [hz.2.1 k hk, hw.2.1 k hk, Int.mul_zero]
  rfl, by rw [dlin_sub, hz.2.2.1, hw.2.2.1, Int.mul_zero]; rfl, by rw [dlin_sub, hz.2.2.2, hw.2.2.2, Int.mul_zero]; rfl⟩
theorem tb_same {A : Nat → Nat → Int} {R : Nat → Int} {s u n : Nat} {α : Nat → Int} {B B' : Nat → Nat → Int} {P : Nat → Int} (hs : s ≤ 4) (hu : u < s) (h : tbI A R s u n B P) (g : gtS n (fA (unit u) n B) B α B') (hz : ∀ j, j < n → α j = 0) : tbI A R s (u + 1) n B' P := by
  obtain ⟨h1, h2, h3, h4, h5, h6⟩ := h
  obtain ⟨rfl, rfl⟩ := gtS_none g hz
  have b0 : ∀ j, j < n → dlin (unit u) (B' j) = 0 := fun j hj => by
    rw [← fA_lin j hj]
    exact hz j hj
  refine ⟨fun j hj => ?_, ?_, h3, h4, h5, fun v hv z hz' hn => ?_⟩
  · rw [← lam_up (by omega)]
    exact ⟨h1 j hj, b0 j hj⟩
  · rw [← lam_up (by omega)]
    exact spn_imp h2 (fun z hz => hz.1)
  · by_cases e : v = u
    · subst e
      obtain ⟨c, hc⟩ := h2 z hz'
      refine absurd ?_ hn
      rw [hc v (by omega)]
      exact dsz_0 n (fun i hi => by rw [← unit_lin2 (z := B' i) (u := v) (by omega), b0 i hi, Int.mul_zero])
    · exact h6 v (by omega) z hz' hn
theorem tb_next {A : Nat → Nat → Int} {R : Nat → Int} {s u n o : Nat} {t : Int} {α : Nat → Int} {B B' : Nat → Nat → Int} {P : Nat → Int} (hA : qA6 A s) (hs : s ≤ 4) (hu : u < s) (h : tbI A R s u n B P) (g : gtS n (fA (unit u) n B) B α B') (ho : o < n) (h0 : α o ≠ 0) (hz : ∀ j, j < n → j ≠ o → α j = 0) (ht : -((α o).natAbs : Int) < 2 * (P u + t * α o) ∧ 2 * (P u + t * α o) ≤ ((α o).natAbs : Int)) (ht2 : t.natAbs ≤ (P u).natAbs + (α o).natAbs) : tbI A R s (u + 1) (n - 1) (rmB n o B') (fun k => P k + t * B' o k) := by
  obtain ⟨n4, rB, rP⟩ := szB_r hA hs h
  obtain ⟨h1, h2, h3, h4, h5, h6⟩ := h
  have u4 : u < 4 := by omega
  have mem := gtS_mem lam_cl h1 g
  have sp := gtS_spn h2 g
  have al := gtS_lin fA_lin g
  have ao : α o = B' o u := by rw [al o ho, unit_lin2 u4]
  have mem' : ∀ j, j < n - 1 → lam A s (u + 1) (rmB n o B' j) := fun j hj => by
    rw [← lam_up u4]
    exact rmB_mem (f := dlin (unit u)) mem (fun j hj hn => by rw [← al j hj]; exact hz j hj hn) ho j hj
  have sp' : spn (lam A s (u + 1)) (n - 1) (rmB n o B') := by
    rw [← lam_up u4]
    exact rmB_spn sp (fun j hj hn => by rw [← al j hj]; exact hz j hj hn) ho (by rw [← al o ho]; exact h0)
  have gap : (α o).natAbs ≤ 72 := by
    rw [ao]
    exact lam_gap hA hu hs sp mem ho (by rw [← ao]; exact h0) (fun j hj hn => by rw [← unit_lin2 (z := B' j) u4, ← al j hj]; exact hz j hj hn)
  refine ⟨mem', sp', fun i hi => ?_, fun k hk => ?_, ?_, fun v hv z hz' hn => ?_⟩
  · rw [dlin_add, h3 i hi]
    have : dlin (A i) (B' o) = 0 := by
      rcases (by omega : i = 0 ∨ i = 1) with rfl | rfl
      · exact (mem o ho).2.2.1
      · exact (mem o ho).2.2.2
    rw [this, Int.mul_zero, Int.add_zero]
  · show P k + t * B' o k = 0
    rw [h4 k hk, (mem o ho).1 k hk, Int.mul_zero]
    rfl
  · have scl : ∀ {x : Int} {m c : Nat}, t.natAbs ≤ m → x.natAbs ≤ c → (t * x).natAbs ≤ m * c := fun {x m c} a b => by
      rw [Int.natAbs_mul]
      exact Nat.mul_le_mul a b
    rcases h5 with ⟨q1, q2, q3⟩ | ⟨q1, q2, q3⟩ | ⟨q1, q3⟩ | ⟨q1, q3⟩ | ⟨q3, q1, p, q2, q4⟩
    · subst q1
      have big := cut_big (m := 11) (X := 11) (α0 := fA (unit u) 3 B) (by omega) (by decide) (fun l hl => by
        rw [fA_lin l hl, unit_lin2 u4]
        exact rln_in (q2 l hl) u4) (fun l hl => fA_0 hl) (fun l c hl hc => rln_in (q2 l hl) hc) g
      refine Or.inr (Or.inl ⟨rfl, fun j k hj hk => ?_, fun k hk => ?_⟩)
      · exact Nat.le_trans (rmB_all (p := fun z => (z k).natAbs ≤ 3 * (11 * 11 * 11)) (fun l hl => big l k hl hk) ho j hj) (by decide)
      · have a := q3 k hk
        have a' := q3 u u4
        have b := scl (m := 512) (by omega) (big o k ho hk)
        show (P k + t * B' o k).natAbs ≤ 1600000000
        omega
    · subst q1
      have l1 := lam_one hA hs sp' (mem' 0 (by omega))
      obtain ⟨j, j1, j2, j3⟩ : ∃ j, j < 2 ∧ j ≠ o ∧ rmB 2 o B' 0 = B' j := by
        rcases (by omega : o = 0 ∨ o = 1) with rfl | rfl
        · exact ⟨1, by omega, by omega, funext fun k => if_pos rfl⟩
        · exact ⟨0, by omega, by omega, funext fun k => if_neg (by decide)⟩
      obtain ⟨l, l2, l3⟩ := gtS_two ho j1 j2 h0 (hz j j1 j2) (fun i hi => fA_0 hi) g
      refine Or.inr (Or.inr (Or.inl ⟨rfl, fun k hk => ?_⟩))
      have a := q3 k hk
      have a' := q3 u u4
      have c1 := l3 k
      have c2 := q2 l k l2 hk
      have c3 := l1 k
      rw [j3] at c3
      have b := scl (x := B' o k) (m := 1600000072) (c := 143820) (by omega) (by omega)
      show (P k + t * B' o k).natAbs ≤ 240000000000000
      omega
    · subst q1
      have o0 : o = 0 := by omega
      subst o0
      have l1 := lam_one hA hs sp (mem 0 (by omega))
      refine Or.inr (Or.inr (Or.inr (Or.inl ⟨rfl, fun k hk => ?_⟩)))
      have a := q3 k hk
      have a' := q3 u u4
      have b := scl (m := 240000000000072) (by omega) (l1 k)
      show (P k + t * B' 0 k).natAbs ≤ 18000000000000000
      omega
    · omega
    · have one : ∀ i j, i < n → j < n → fA (unit u) n B i ≠ 0 → fA (unit u) n B j ≠ 0 → i = j := fun i j hi hj ni nj => by
        rw [fA_lin i hi, unit_lin2 u4, q2 i hi] at ni
        rw [fA_lin j hj, unit_lin2 u4, q2 j hj] at nj
        refine q4 i j hi hj ?_
        have ei : u = p i := Decidable.byContradiction fun w => ni (if_neg w)
        have ej : u = p j := Decidable.byContradiction fun w => nj (if_neg w)
        omega
      obtain ⟨rfl, rfl⟩ := gtS_no one g
      have a1 : (fA (unit u) n B' o).natAbs ≤ 1 := by
        rw [fA_lin o ho, unit_lin2 u4, q2 o ho]
        exact rln_in (unit_rln _) u4
      rw [q3 u, Int.zero_add] at ht
      have tz : t * fA (unit u) n B' o = 0 := by omega
      have t0 : t = 0 := by
        rcases Int.mul_eq_zero.mp tz with y | y
        · exact y
        · exact absurd y h0
      refine Or.inr (Or.inr (Or.inr (Or.inr ⟨fun k => ?_, by omega, fun j => if j = o then p (n - 1) else p j, fun j hj => ?_, fun j l hj hl e => ?_⟩)))
      · show P k + t * B' o k = 0
        rw [q3 k, t0, Int.zero_mul]
        rfl
      · show rmB n o B' j = unit (if j = o then p (n - 1) else p j)
        by_cases e : j = o
        · rw [if_pos e, show rmB n o B' j = B' (n - 1) from funext fun k => if_pos e]
          exact q2 _ (by omega)
        · rw [if_neg e, show rmB n o B' j = B' j from funext fun k => if_neg e]
          exact q2 _ (by omega)
      · have e : (if j = o then p (n - 1) else p j) = (if l = o then p (n - 1) else p l) := e
        by_cases e1 : j = o
        · by_cases e2 : l = o
          · omega
          · rw [if_pos e1, if_neg e2] at e
            have := q4 _ _ (by omega) (by omega) e
            omega
        · by_cases e2 : l = o
          · rw [if_neg e1, if_pos e2] at e
            have := q4 _ _ (by omega) (by omega) e
            omega
          · rw [if_neg e1, if_neg e2] at e
            exact q4 _ _ (by omega) (by omega) e
  · by_cases e : v = u
    · subst e
      obtain ⟨c, hc⟩ := sp z hz'
      have e1 := hc v u4
      rw [dsz_1 n ho (fun i hi hn => by rw [← unit_lin2 (z := B' i) u4, ← al i hi, hz i hi hn, Int.mul_zero]), ← ao] at e1
      have c0 : c o ≠ 0 := fun w => hn (by rw [e1, w, Int.zero_mul])
      have big : (α o).natAbs ≤ (z v).natAbs := by
        rw [e1, Int.natAbs_mul]
        have : 1 * (α o).natAbs ≤ (c o).natAbs * (α o).natAbs := Nat.mul_le_mul_right _ (by omega)
        omega
      show -((z v).natAbs : Int) < 2 * (P v + t * B' o v) ∧ 2 * (P v + t * B' o v) ≤ ((z v).natAbs : Int)
      rw [← ao]
      omega
    · show -((z v).natAbs : Int) < 2 * (P v + t * B' o v) ∧ 2 * (P v + t * B' o v) ≤ ((z v).natAbs : Int)
      rw [(mem o ho).2.1 v (by omega), Int.mul_zero, Int.add_zero]
      exact h6 v (by omega) z hz' hn
end
