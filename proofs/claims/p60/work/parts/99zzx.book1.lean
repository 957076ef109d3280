/-! THE BOOK: what a kind owes: its items, its answer, its judges. -/
section
def cA (d : Nat → Int32) (i : Nat) : Nat := (d (5 * i)).toNatClampNeg
def cB (d : Nat → Int32) (i : Nat) : Nat := (d (5 * i + 1)).toNatClampNeg
def cC (d : Nat → Int32) (i : Nat) : Nat := (d (5 * i + 2)).toNatClampNeg
def loS (k : Nat) : Nat := [1, 2, 1, 1, 1, 1, 1, 1, 2, 1, 1, 1].getD k 1
def hiS (k : Nat) : Nat := [9, 7, 7, 4, 6, 4, 1, 1, 6, 1, 8, 7].getD k 1
def loB (k : Nat) : Int := [0, 0, 0, 0, 0, -40, 2, 0, 0, 0, 0, 0].getD k 0
def hiB (k : Nat) : Int := [9, 60, 11, 40, 6, 40, 9999, 3, 4, 7, 7, 6].getD k 0
def mostN (k s : Nat) : Nat := if k = 10 ∨ k = 11 then s else [16, 10, 11, 12, 12, 2, 0, 1, 5, 6].getD k 0
/-- the five numbers of the item i -/
def itK (k s i : Nat) (x : Nat → Int32) : Prop :=
  (k = 0 ∨ k = 2 → ∃ a c, x 0 = nI a ∧ x 1 = nI c ∧ a < s ∧ c < s ∧ a ≠ c) ∧
  (k = 1 → ∃ a c f, x 0 = nI a ∧ x 1 = nI c ∧ x 2 = nI f ∧ a < s ∧ c < s ∧ a ≠ c ∧ f ≤ 6) ∧
  (k = 3 → (∀ j, j < s → (x j).toInt.natAbs ≤ 9) ∧ (x 4).toInt.natAbs ≤ 60) ∧
  (k = 4 → (∀ j, j < 3 → (x j).toInt.natAbs ≤ s) ∧ ¬ (x 0 = 0 ∧ x 1 = 0 ∧ x 2 = 0)) ∧
  (k = 5 → (∀ j, j < s → (x j).toInt.natAbs ≤ 6) ∧ (x 4).toInt.natAbs ≤ 20) ∧
  (k = 7 → ∀ j, j < 4 → (x j).toInt.natAbs ≤ 7) ∧
  (k = 8 → (∀ j, j < s → j < 5 → ∃ v, v < s ∧ x j = nI v) ∧ ∀ i j, i < j → j < s → j < 5 → x i ≠ x j) ∧
  (k = 9 → ∃ a c, x 0 = nI a ∧ x 1 = nI c ∧ 0 < a ∧ 0 < c ∧ a < 256 ∧ c < 256 ∧ (1 ≤ i → a < 32 ∧ c < 32)) ∧
  (k = 10 → ∃ a c f, x 0 = nI a ∧ x 1 = nI c ∧ x 2 = nI f ∧ a < s ∧ c < s ∧ f ≤ 1) ∧
  (k = 11 → ∃ o w a, x 0 = nI o ∧ x 1 = nI w ∧ x 2 = nI a ∧ o ≤ 1 ∧ w ≤ 5 ∧ a < s ∧ ∀ j, j < 2 → x (3 + j) = -1 ∨ ∃ u, u < s ∧ x (3 + j) = nI u)
/-- no two items are between the same two -/
def dstK (k m : Nat) (d : Nat → Int32) : Prop := k = 0 ∨ k = 2 → ∀ i j, i < m → j < m → (cA d i = cA d j ∧ cB d i = cB d j ∨ cA d i = cB d j ∧ cB d i = cA d j) → i = j
def itmQ (k s m : Nat) (d : Nat → Int32) : Prop := k < 12 ∧ loS k ≤ s ∧ s ≤ hiS k ∧ m ≤ mostN k s ∧ (∀ i, i < m → itK k s i (fun j => d (5 * i + j))) ∧ dstK k m d
def bndQ (k : Nat) (b : Int32) : Prop := loB k ≤ b.toInt ∧ b.toInt ≤ hiB k
def kdL (k s m : Nat) (b : Int32) (d : Nat → Int32) (aY aN : List Int32 → Prop) : Prop :=
  (k = 0 → ∀ xs, (aY xs ↔ pairOK s (nrA m (cA d) (cB d)) b.toNatClampNeg xs) ∧ (aN xs ↔ nodesOK s (nrA m (cA d) (cB d)) b.toNatClampNeg xs)) ∧
  (k = 1 → ∀ xs, (aY xs ↔ flowOK m (s - 2) (cA d) (cB d) (cC d) b.toNatClampNeg xs) ∧ (aN xs ↔ barOK m (s - 2) (cA d) (cB d) (cC d) b.toNatClampNeg xs)) ∧
  (k = 3 → ∀ xs, (aY xs ↔ unfOK d s m b xs) ∧ (aN xs ↔ wgtOK d s m b xs)) ∧
  (k = 4 → ∀ xs, (aY xs ↔ truOK d m s b.toNatClampNeg xs) ∧ (aN xs ↔ treeOK d m s b.toNatClampNeg xs))
/-- an answer, its number and row, what is accepted in either sense -/
def ansP (k s m : Nat) (b : Int32) (d : Nat → Int32) (rp told : Int32) (row : List Int32) (aY aN : List Int32 → Prop) : Prop :=
  (rp = 121 ∨ rp = 110) ∧ (rp = 121 → aY row) ∧ (rp = 110 → aN row) ∧ (∀ xs ys, aY xs → aN ys → False) ∧ kdL k s m b d aY aN ∧
  (∀ F e Ln V, 2 ^ 34 ≤ F → 256 ≤ e → e < 1024 → mK (e + 2) = 9 → V.fI e 0 = nI k → enQ V e s m b d → (∃ xs, rowIs Ln V (e + 2) xs) → mTo (mX4_solve F Ln e V) (fun p => p.2.2.fI e 11 = rp ∧ p.2.2.fI e 12 = told ∧ rowIs p.2.1 p.2.2 (e + 2) row)) ∧
  ∀ F e r Ln V xs w, 2 ^ 34 ≤ F → 256 ≤ e → e < 1024 → 256 ≤ r → V.fI e 0 = nI k → enQ V e s m b d → rowIs Ln V r xs → mTo (mX4_judge F Ln e r w V) (fun p => p.1 = 0 ↔ if w = 0 then aN xs else aY xs)
theorem sol_fin {e : Nat} {rp told : Int32} {row : List Int32} {o : Option (Unit × (Nat → Nat) × mV)} (h : mTo o (fun p => p.2.2.fI e 11 = rp ∧ p.2.2.fI e 12 = told ∧ rowIs p.2.1 p.2.2 (e + 2) row)) : mTo (mBA o fun _ L9 V9 => (mLt (mF V9 e 9 ((1 : Int32))) fun V13 => (mLt (mF V13 e 10 ((V13.fI e 8))) fun V14 => some ((), L9, V14)))) (fun p => p.2.2.fI e 11 = rp ∧ p.2.2.fI e 12 = told ∧ rowIs p.2.1 p.2.2 (e + 2) row) := by
  refine mTo.A h (fun _ L V _ q => mTo.lt (mTo.lt (mTo.ret ?_)))
  obtain ⟨q1, q2, q3⟩ := q
  have q1 : V.fI e 11 = rp := q1
  have q2 : V.fI e 12 = told := q2
  have q3 : rowIs L V (e + 2) row := q3
  obtain ⟨r1, r2, r3, r4⟩ := q3
  refine ⟨?_, ?_, ?_, r2, r3, r4⟩
  · rw [mF_no (Or.inr (by decide)), mF_no (Or.inr (by decide))]
    exact q1
  · rw [mF_no (Or.inr (by decide)), mF_no (Or.inr (by decide))]
    exact q2
  · rw [mF_no (Or.inl (by omega)), mF_no (Or.inl (by omega))]
    exact r1
theorem sol_clr {F e : Nat} {k : Int32} {s m : Nat} {b : Int32} {d : Nat → Int32} {Ln : Nat → Nat} {V : mV} {f : Unit → mV → Option (Unit × (Nat → Nat) × mV)} {Q : Unit × (Nat → Nat) × mV → Prop} (hk : V.fI e 0 = k) (hq : enQ V e s m b d) (hr : ∃ xs, rowIs Ln V (e + 2) xs) (h : ∀ V2, V2.fI e 0 = k → enQ V2 e s m b d → rowIs Ln V2 (e + 2) [] → mTo (f () V2) Q) : mTo (mBW (mX9_clear F (e + 2) V) f) Q := by
  unfold mX9_clear
  refine mTo.W (Q := fun r => r = ((), mF V (e + 2) 1 0)) (mTo.lt (mTo.ret rfl)) (fun v V2 _ q => ?_)
  have q := (Prod.mk.inj q).2
  subst q
  obtain ⟨xs, _, _, r3, _⟩ := hr
  obtain ⟨q1, q2, q3, q4⟩ := hq
  refine h _ ?_ ⟨?_, ?_, ?_, q4⟩ ⟨mF_at, Nat.zero_le _, r3, fun i hi => absurd hi (Nat.not_lt_zero _)⟩
  · rw [mF_no (Or.inl (by omega))]; exact hk
  · rw [mF_no (Or.inl (by omega))]; exact q1
  · rw [mF_no (Or.inl (by omega))]; exact q2
  · rw [mF_no (Or.inl (by omega))]; exact q3
theorem nat_b {b : Int32} {n : Nat} (h0 : 0 ≤ b.toInt) (h1 : b.toInt ≤ n) : ∃ c, b = nI c ∧ c ≤ n ∧ b.toNatClampNeg = c := by
  have hc := i32c h0
  refine ⟨b.toNatClampNeg, ?_, by omega, rfl⟩
  apply Int32.toInt_inj.mp
  rw [nI_toInt (by have := b.toInt_lt; omega), hc]
  omega
theorem cl_n {x : Int32} {n : Nat} (h : x = nI n) (hn : n < 2 ^ 31) : x.toNatClampNeg = n := by rw [h, nI_clamp hn]
theorem ite1 {c : Prop} {x : Decidable c} {n : Nat} (h : c) : (if c then (121 : Int32) else 110) = 121 := if_pos h
theorem yn_c {c : Prop} {x : Decidable c} : ((if c then (121 : Int32) else 110) = 121 ∨ (if c then (121 : Int32) else 110) = 110) ∧ ((if c then (121 : Int32) else 110) = 121 → c) ∧ ((if c then (121 : Int32) else 110) = 110 → ¬ c) := by
  by_cases h : c
  · rw [if_pos h]
    exact ⟨Or.inl rfl, fun _ => h, fun e => absurd e (by decide)⟩
  · rw [if_neg h]
    exact ⟨Or.inr rfl, fun e => absurd e (by decide), fun _ => h⟩
theorem ans_m {s m : Nat} {b : Int32} {d : Nat → Int32} (h : itmQ 0 s m d) (hb : bndQ 0 b) : ∃ rp told row aY aN, ansP 0 s m b d rp told row aY aN := by
  obtain ⟨_, s1, s2, m1, hi, hds⟩ := h
  obtain ⟨b1, b2⟩ := hb
  have s1 : 1 ≤ s := s1
  have s2 : s ≤ 9 := s2
  have m1 : m ≤ 16 := m1
  have b1 : 0 ≤ b.toInt := b1
  have b2 : b.toInt ≤ 9 := b2
  obtain ⟨c, rfl, c1, c2⟩ := nat_b (b := b) (n := 9) (by omega) (by omega)
  have hd : ∀ i, i < m → d (5 * i) = nI (cA d i) ∧ d (5 * i + 1) = nI (cB d i) ∧ cA d i < s ∧ cB d i < s ∧ cA d i ≠ cB d i := fun i him => by
    obtain ⟨a, e, x0, x1, y1, y2, y3⟩ := (hi i him).1 (by decide)
    have x0 : d (5 * i) = nI a := x0
    have x1 : d (5 * i + 1) = nI e := x1
    unfold cA cB
    rw [x0, x1, nI_clamp (by omega), nI_clamp (by omega)]
    exact ⟨rfl, rfl, y1, y2, y3⟩
  have hd4 : ∀ i, i < m → d (5 * i) = nI (cA d i) ∧ d (5 * i + 1) = nI (cB d i) ∧ cA d i < s ∧ cB d i < s := fun i him => ⟨(hd i him).1, (hd i him).2.1, (hd i him).2.2.1, (hd i him).2.2.2.1⟩
  refine ⟨(if s - 2 * nu (nrA m (cA d) (cB d)) s (2 ^ s - 1) ≤ c then (121 : Int32) else 110), nI (s - 2 * nu (nrA m (cA d) (cB d)) s (2 ^ s - 1)), rowM (nrA m (cA d) (cB d)) s c, pairOK s (nrA m (cA d) (cB d)) c, nodesOK s (nrA m (cA d) (cB d)) c, yn_c.1, fun y => rowM_yes (by omega) (yn_c.2.1 y), fun y => rowM_no (by omega) (fun i him => (hd i him).2.2.2.2) (yn_c.2.2 y), fun xs ys h1 h2 => pair_nodes (by omega) h1 h2, ⟨fun _ xs => by rw [c2]; exact ⟨Iff.rfl, Iff.rfl⟩, fun z => absurd z (by decide), fun z => absurd z (by decide), fun z => absurd z (by decide)⟩, fun F e Ln V hF he he2 hk9 hk hq hr => ?_, fun F e r Ln V xs w hF he he2 hr hk hq hR => ?_⟩
  · unfold mX4_solve
    refine sol_clr hk hq hr (fun V2 hk hq hR => ?_)
    rw [hk, if_pos (by decide)]
    exact sol_fin (T_solvePairings (by omega) he he2 hk9 (by omega) (by omega) (by omega) (by omega) hq hR hd4)
  · unfold mX4_judge
    rw [hk, if_pos (by decide)]
    refine mTo.ite (fun hw => ?_) (fun hw => ?_)
    · rw [if_pos hw]
      exact mTo.W (T_judgeNodes (by omega) he hr (by omega) (by omega) (by omega) hq (by omega) hR hd4) (fun v V5 _ q => mTo.ret q)
    · rw [if_neg hw]
      exact mTo.W (T_judgePairing (by omega) he hr (by omega) (by omega) (by omega) hq (by omega) hR hd4) (fun v V5 _ q => mTo.ret q)
theorem ans_f {s m : Nat} {b : Int32} {d : Nat → Int32} (h : itmQ 1 s m d) (hb : bndQ 1 b) : ∃ rp told row aY aN, ansP 1 s m b d rp told row aY aN := by
  obtain ⟨_, s1, s2, m1, hi, hds⟩ := h
  obtain ⟨b1, b2⟩ := hb
  have s1 : 2 ≤ s := s1
  have s2 : s ≤ 7 := s2
  have m1 : m ≤ 10 := m1
  have b1 : 0 ≤ b.toInt := b1
  have b2 : b.toInt ≤ 60 := b2
  obtain ⟨c, rfl, c1, c2⟩ := nat_b (b := b) (n := 60) (by omega) (by omega)
  obtain ⟨y, rfl⟩ : ∃ y, s = y + 2 := ⟨s - 2, by omega⟩
  have hd : qF d m y (cA d) (cB d) (cC d) := fun i him => by
    obtain ⟨a, e, f, x0, x1, x2, y1, y2, y3, y4⟩ := (hi i him).2.1 rfl
    have x0 : d (5 * i) = nI a := x0
    have x1 : d (5 * i + 1) = nI e := x1
    have x2 : d (5 * i + 2) = nI f := x2
    unfold cA cB cC
    rw [x0, x1, x2, nI_clamp (by omega), nI_clamp (by omega), nI_clamp (by omega)]
    exact ⟨rfl, rfl, rfl, y1, y2, y3, y4⟩
  refine ⟨(if c ≤ gr (cA d) (cB d) (cC d) (y + 2) m then (121 : Int32) else 110), nI (gr (cA d) (cB d) (cC d) (y + 2) m), rowF (cA d) (cB d) (cC d) (y + 2) m c, flowOK m y (cA d) (cB d) (cC d) c, barOK m y (cA d) (cB d) (cC d) c, yn_c.1, fun z => rowF_yes (by omega) (by omega) hd (yn_c.2.1 z), fun z => rowF_no (by omega) (by omega) hd (yn_c.2.2 z), fun xs ys h1 h2 => flow_bars (by omega) hd h1 h2, ⟨fun z => absurd z (by decide), fun _ xs => by rw [c2, Nat.add_sub_cancel]; exact ⟨Iff.rfl, Iff.rfl⟩, fun z => absurd z (by decide), fun z => absurd z (by decide)⟩, fun F e Ln V hF he he2 hk9 hk hq hr => ?_, fun F e r Ln V xs w hF he he2 hr hk hq hR => ?_⟩
  · unfold mX4_solve
    refine sol_clr hk hq hr (fun V2 hk hq hR => ?_)
    rw [hk, if_neg (by decide), if_pos (by decide)]
    exact sol_fin (T_solveFlows (by omega) he he2 hk9 (by omega) (by omega) (by omega) hq hR hd)
  · unfold mX4_judge
    rw [hk, if_neg (by decide), if_pos (by decide)]
    refine mTo.ite (fun hw => ?_) (fun hw => ?_)
    · rw [if_pos hw]
      exact mTo.W (T_judgeBar (by omega) he hr (by omega) (by omega) hq hR hd (by omega)) (fun v V5 _ q => mTo.ret q)
    · rw [if_neg hw]
      exact mTo.W (T_judgeFlow (by omega) he hr (by omega) (by omega) hq hR hd (by omega)) (fun v V5 _ q => mTo.ret q)
theorem ans_p {s m : Nat} {b : Int32} {d : Nat → Int32} (h : itmQ 2 s m d) (hb : bndQ 2 b) : ∃ rp told row aY aN, ansP 2 s m b d rp told row aY aN := by
  obtain ⟨_, s1, s2, m1, hi, hds⟩ := h
  obtain ⟨b1, b2⟩ := hb
  have s1 : 1 ≤ s := s1
  have s2 : s ≤ 7 := s2
  have m1 : m ≤ 11 := m1
  have b1 : 0 ≤ b.toInt := b1
  have b2 : b.toInt ≤ 11 := b2
  obtain ⟨c, rfl, c1, c2⟩ := nat_b (b := b) (n := 11) (by omega) (by omega)
  have hd : ∀ i, i < m → d (5 * i) = nI (cA d i) ∧ d (5 * i + 1) = nI (cB d i) ∧ cA d i < s ∧ cB d i < s ∧ cA d i ≠ cB d i := fun i him => by
    obtain ⟨a, e, x0, x1, y1, y2, y3⟩ := (hi i him).1 (by decide)
    have x0 : d (5 * i) = nI a := x0
    have x1 : d (5 * i + 1) = nI e := x1
    unfold cA cB
    rw [x0, x1, nI_clamp (by omega), nI_clamp (by omega)]
    exact ⟨rfl, rfl, y1, y2, y3⟩
  have hd2 : qP d s m (cA d) (cB d) := ⟨hd, fun i j i1 j1 => hds (by decide) i j i1 j1⟩
  refine ⟨(@ite _ (drnE (nbP m c (cA d) (cB d))) (Classical.propDecidable _) (121 : Int32) 110), (@ite _ (drnE (nbP m c (cA d) (cB d))) (Classical.propDecidable _) (dueI (nbP m c (cA d) (cB d)) (s - 1)) 0), rowDr m c (cA d) (cB d), drawOK (nbP m c (cA d) (cB d)) s, coreOK m c (cA d) (cB d), yn_c.1, fun z => rowP_yes (by omega) (by omega) (by omega) hd2 (yn_c.2.1 z), fun z => rowP_no (by omega) (by omega) (by omega) hd2 (yn_c.2.2 z), fun xs ys h1 h2 => draw_core (by omega) (by omega) (by omega) hd2 h1 h2, ⟨fun z => absurd z (by decide), fun z => absurd z (by decide), fun z => absurd z (by decide), fun z => absurd z (by decide)⟩, fun F e Ln V hF he he2 hk9 hk hq hr => ?_, fun F e r Ln V xs w hF he he2 hr hk hq hR => ?_⟩
  · unfold mX4_solve
    refine sol_clr hk hq hr (fun V2 hk hq hR => ?_)
    rw [hk, if_neg (by decide), if_neg (by decide), if_pos (by decide)]
    exact sol_fin ((T_solveDrawings (by omega) he he2 hk9 (by omega) (by omega) (by omega) (by omega) hd2 hq hR).mono (fun p q => by
      obtain ⟨q1, q2, q3⟩ := q
      by_cases z : drnE (nbP m c (cA d) (cB d))
      · rw [if_pos z, if_pos z]
        exact ⟨(q1 z).1, (q1 z).2, q3⟩
      · rw [if_neg z, if_neg z]
        exact ⟨(q2 z).1, (q2 z).2, q3⟩))
  · unfold mX4_judge
    rw [hk, if_neg (by decide), if_neg (by decide), if_pos (by decide)]
    refine mTo.ite (fun hw => ?_) (fun hw => ?_)
    · rw [if_pos hw]
      exact mTo.W (T_judgeCore (by omega) he hr (by omega) (by omega) (by omega) hd2 hq hR) (fun v V5 _ q => mTo.ret q)
    · rw [if_neg hw]
      exact mTo.W (T_judgeDrawing (by omega) he hr (by omega) (by omega) (by omega) (by omega) hd2 hq hR) (fun v V5 _ q => mTo.ret q)
theorem ans_l {s m : Nat} {b : Int32} {d : Nat → Int32} (h : itmQ 3 s m d) (hb : bndQ 3 b) : ∃ rp told row aY aN, ansP 3 s m b d rp told row aY aN := by
  obtain ⟨_, s1, s2, m1, hi, hds⟩ := h
  obtain ⟨b1, b2⟩ := hb
  have s1 : 1 ≤ s := s1
  have s2 : s ≤ 4 := s2
  have m1 : m ≤ 12 := m1
  have b1 : 0 ≤ b.toInt := b1
  have b2 : b.toInt ≤ 40 := b2
  have hd : qL d s m b := ⟨fun i him => (hi i him).2.2.1 rfl, by omega⟩
  refine ⟨(@ite _ (yesL d s m b) (Classical.propDecidable _) (121 : Int32) 110), (@ite _ (yesL d s m b) (Classical.propDecidable _) (tolU d s m b) 0), rowLL d s m b, unfOK d s m b, wgtOK d s m b, yn_c.1, fun z => rowLL_yes (by omega) (by omega) hd (yn_c.2.1 z), fun z => rowLL_no (by omega) (by omega) hd (yn_c.2.2 z), fun xs ys h1 h2 => unf_wgt h1 h2, ⟨fun z => absurd z (by decide), fun z => absurd z (by decide), fun _ xs => ⟨Iff.rfl, Iff.rfl⟩, fun z => absurd z (by decide)⟩, fun F e Ln V hF he he2 hk9 hk hq hr => ?_, fun F e r Ln V xs w hF he he2 hr hk hq hR => ?_⟩
  · unfold mX4_solve
    refine sol_clr hk hq hr (fun V2 hk hq hR => ?_)
    rw [hk, if_neg (by decide), if_neg (by decide), if_neg (by decide), if_pos (by decide)]
    exact sol_fin ((T_solveIneq (by omega) he he2 hk9 (by omega) (by omega) hd hq hR).mono (fun p q => by
      obtain ⟨q1, q2, q3⟩ := q
      by_cases z : yesL d s m b
      · rw [if_pos z, if_pos z]
        exact ⟨(q1 z).1, (q1 z).2, q3⟩
      · rw [if_neg z, if_neg z]
        exact ⟨(q2 z).1, (q2 z).2, q3⟩))
  · unfold mX4_judge
    rw [hk, if_neg (by decide), if_neg (by decide), if_neg (by decide), if_pos (by decide)]
    refine mTo.ite (fun hw => ?_) (fun hw => ?_)
    · rw [if_pos hw]
      exact mTo.N (T_judgeWgt (by omega) (by omega) (by omega) hd hq hR) (fun v _ q => mTo.ret q)
    · rw [if_neg hw]
      exact mTo.N (T_judgeUnf (by omega) (by omega) (by omega) hd hq hR) (fun v _ q => mTo.ret q)
theorem ans_s {s m : Nat} {b : Int32} {d : Nat → Int32} (h : itmQ 4 s m d) (hb : bndQ 4 b) : ∃ rp told row aY aN, ansP 4 s m b d rp told row aY aN := by
  obtain ⟨_, s1, s2, m1, hi, hds⟩ := h
  obtain ⟨b1, b2⟩ := hb
  have s1 : 1 ≤ s := s1
  have s2 : s ≤ 6 := s2
  have m1 : m ≤ 12 := m1
  have b1 : 0 ≤ b.toInt := b1
  have b2 : b.toInt ≤ 6 := b2
  obtain ⟨c, rfl, c1, c2⟩ := nat_b (b := b) (n := 6) (by omega) (by omega)
  have hd : qS d m s := fun i k him hk => by
    have a := ((hi i him).2.2.2.1 rfl).1 k hk
    have a : (d (5 * i + k)).toInt.natAbs ≤ s := a
    refine ⟨(d (5 * i + k)).toInt.natAbs, a, ?_⟩
    rcases Int.natAbs_eq (d (5 * i + k)).toInt with e | e
    · left
      apply Int32.toInt_inj.mp
      rw [nI_toInt (by omega)]
      exact e
    · right
      apply Int32.toInt_inj.mp
      rw [Int32.toInt_neg, nI_toInt (by omega), Int.bmod_eq_of_le (by omega) (by omega)]
      exact e
  refine ⟨(if cnt (okT d m s c) (2 ^ s) ≠ 0 then (121 : Int32) else 110), nI (cnt (okT d m s c) (2 ^ s)), rowS d m s c, truOK d m s c, treeOK d m s c, yn_c.1, fun z => rowS_yes (by omega) (by omega) (yn_c.2.1 z), fun z => rowS_no (by omega) (by omega) (by omega) (Decidable.not_not.mp (yn_c.2.2 z)), fun xs ys h1 h2 => tru_tree (by omega) (by omega) (by omega) hd h1 h2, ⟨fun z => absurd z (by decide), fun z => absurd z (by decide), fun z => absurd z (by decide), fun _ xs => by rw [c2]; exact ⟨Iff.rfl, Iff.rfl⟩⟩, fun F e Ln V hF he he2 hk9 hk hq hr => ?_, fun F e r Ln V xs w hF he he2 hr hk hq hR => ?_⟩
  · unfold mX4_solve
    refine sol_clr hk hq hr (fun V2 hk hq hR => ?_)
    rw [hk, if_neg (by decide), if_neg (by decide), if_neg (by decide), if_neg (by decide), if_pos (by decide)]
    exact sol_fin ((T_solveClauses (by omega) he he2 hk9 (by omega) (by omega) (by omega) (by omega) hd hq hR).mono (fun p q => by
      obtain ⟨q1, q2, q3⟩ := q
      refine ⟨?_, q2, q3⟩
      rw [q1]
      by_cases z : cnt (okT d m s c) (2 ^ s) = 0
      · rw [if_pos z, if_neg (fun w => w z)]
      · rw [if_neg z, if_pos z]))
  · unfold mX4_judge
    rw [hk, if_neg (by decide), if_neg (by decide), if_neg (by decide), if_neg (by decide), if_pos (by decide)]
    refine mTo.ite (fun hw => ?_) (fun hw => ?_)
    · rw [if_pos hw]
      exact mTo.W (T_judgeTree (by omega) he hr (by omega) (by omega) (by omega) (by omega) hd hq hR) (fun v V5 _ q => mTo.ret q)
    · rw [if_neg hw]
      exact mTo.W (T_judgeTruths (by omega) he hr (by omega) (by omega) (by omega) (by omega) hd hq hR) (fun v V5 _ q => mTo.ret q)
/-- a state that asks a question, and nothing else -/
def artV (k s m : Nat) (b : Int32) (d : Nat → Int32) : mV := (fun i j => if i = 256 then (if j = 0 then nI k else if j = 1 then nI s else if j = 6 then nI m else if j = 8 then b else 0) else 0, fun _ _ => 0, fun i j => if i = 257 then d j else 0, fun _ _ => 0, fun _ => 0)
theorem art_q {k s m : Nat} {b : Int32} {d : Nat → Int32} : enQ (artV k s m b d) 256 s m b d ∧ rowIs (fun _ => 16) (artV k s m b d) 258 [] := ⟨⟨rfl, rfl, rfl, fun j _ => rfl⟩, rfl, Nat.zero_le _, ⟨0, by decide, rfl⟩, fun i hi => absurd hi (Nat.not_lt_zero _)⟩
theorem hit_ex {d : Nat → Int32} {s m : Nat} {b : Int32} (hs : s ≤ 4) (hm : m ≤ 2) (hd : qD d s m b) (h : ¬ yesD d s m b) : hitX (aD d s m) s (rD d m b) := by
  obtain ⟨q, r⟩ := art_q (k := 5) (s := s) (m := m) (b := b) (d := d)
  obtain ⟨p, _, p2⟩ := T_solveEquations (F := 2 ^ 34) (e := 256) (Ln := fun _ => 16) (Nat.le_refl _) (by decide) (by decide) (by decide) hs hm hd q r
  exact (p2.2.1 h).2.2
theorem ans_d {s m : Nat} {b : Int32} {d : Nat → Int32} (h : itmQ 5 s m d) (hb : bndQ 5 b) : ∃ rp told row aY aN, ansP 5 s m b d rp told row aY aN := by
  obtain ⟨_, s1, s2, m1, hi, hds⟩ := h
  obtain ⟨b1, b2⟩ := hb
  have s1 : 1 ≤ s := s1
  have s2 : s ≤ 4 := s2
  have m1 : m ≤ 2 := m1
  have b1 : -40 ≤ b.toInt := b1
  have b2 : b.toInt ≤ 40 := b2
  have hd : qD d s m b := ⟨fun i him => (hi i him).2.2.2.2.1 rfl, by omega⟩
  refine ⟨(@ite _ (yesD d s m b) (Classical.propDecidable _) (121 : Int32) 110), (@ite _ (yesD d s m b) (Classical.propDecidable _) 0 ((rowE d s m b).getD 0 0)), rowE d s m b, unkOK d s m b, modOK d s m b, yn_c.1, fun z => rowE_yes (by omega) (by omega) hd (yn_c.2.1 z), fun z => rowE_no (by omega) (by omega) (hit_ex (by omega) (by omega) hd (yn_c.2.2 z)), fun xs ys h1 h2 => unk_mod h1 h2, ⟨fun z => absurd z (by decide), fun z => absurd z (by decide), fun z => absurd z (by decide), fun z => absurd z (by decide)⟩, fun F e Ln V hF he he2 hk9 hk hq hr => ?_, fun F e r Ln V xs w hF he he2 hr hk hq hR => ?_⟩
  · unfold mX4_solve
    refine sol_clr hk hq hr (fun V2 hk hq hR => ?_)
    rw [hk, if_neg (by decide), if_neg (by decide), if_neg (by decide), if_neg (by decide), if_neg (by decide), if_pos (by decide)]
    exact sol_fin ((T_solveEquations (by omega) he he2 hk9 (by omega) (by omega) hd hq hR).mono (fun p q => by
      obtain ⟨q1, q2, q3⟩ := q
      by_cases z : yesD d s m b
      · rw [if_pos z, if_pos z]
        exact ⟨(q1 z).1, (q1 z).2, q3⟩
      · rw [if_neg z, if_neg z]
        exact ⟨(q2 z).1, (q2 z).2.1, q3⟩))
  · unfold mX4_judge
    rw [hk, if_neg (by decide), if_neg (by decide), if_neg (by decide), if_neg (by decide), if_neg (by decide), if_pos (by decide)]
    refine mTo.ite (fun hw => ?_) (fun hw => ?_)
    · rw [if_pos hw]
      exact mTo.N (T_judgeModulus (by omega) (by omega) (by omega) hd hq hR) (fun v _ q => mTo.ret q)
    · rw [if_neg hw]
      exact mTo.N (T_judgeUnknowns (by omega) (by omega) (by omega) hd hq hR) (fun v _ q => mTo.ret q)
theorem ans_n {s m : Nat} {b : Int32} {d : Nat → Int32} (h : itmQ 6 s m d) (hb : bndQ 6 b) : ∃ rp told row aY aN, ansP 6 s m b d rp told row aY aN := by
  obtain ⟨_, s1, s2, m1, hi, hds⟩ := h
  obtain ⟨b1, b2⟩ := hb
  have s1 : 1 ≤ s := s1
  have s2 : s ≤ 1 := s2
  have m1 : m ≤ 0 := m1
  have b1 : 2 ≤ b.toInt := b1
  have b2 : b.toInt ≤ 9999 := b2
  obtain ⟨c, rfl, c1, c2⟩ := nat_b (b := b) (n := 9999) (by omega) (by omega)
  have c3 : 2 ≤ c := by
    rw [nI_toInt (by omega)] at b1
    omega
  refine ⟨(if ld c = c then (121 : Int32) else 110), nI (ld c), rowN c, primeOK c, prodOK c, yn_c.1, fun z => (rowN_yes c3 (by omega) (yn_c.2.1 z)).1, fun z => rowN_no c3 (by omega) (yn_c.2.2 z), fun xs ys h1 h2 => prime_prod (by omega) h1 h2, ⟨fun z => absurd z (by decide), fun z => absurd z (by decide), fun z => absurd z (by decide), fun z => absurd z (by decide)⟩, fun F e Ln V hF he he2 hk9 hk hq hr => ?_, fun F e r Ln V xs w hF he he2 hr hk hq hR => ?_⟩
  · unfold mX4_solve
    refine sol_clr hk hq hr (fun V2 hk hq hR => ?_)
    rw [hk, if_neg (by decide), if_neg (by decide), if_neg (by decide), if_neg (by decide), if_neg (by decide), if_neg (by decide), if_pos (by decide)]
    exact sol_fin ((T_solvePrimes (by omega) he he2 hk9 c3 (by omega) hq hR).mono (fun p q => by
      obtain ⟨q1, q2, q3, q4⟩ := q
      refine ⟨?_, q3, q4⟩
      by_cases z : ld c = c
      · rw [if_pos z]
        exact q1 z
      · rw [if_neg z]
        exact q2 z))
  · unfold mX4_judge
    rw [hk, if_neg (by decide), if_neg (by decide), if_neg (by decide), if_neg (by decide), if_neg (by decide), if_neg (by decide), if_pos (by decide)]
    refine mTo.ite (fun hw => ?_) (fun hw => ?_)
    · rw [if_pos hw]
      exact mTo.N (T_judgeProduct (by omega) hq hR) (fun v _ q => mTo.ret q)
    · rw [if_neg hw]
      exact mTo.N (T_judgePrime (by omega) hq hR) (fun v _ q => mTo.ret q)
theorem ans_r {s m : Nat} {b : Int32} {d : Nat → Int32} (h : itmQ 7 s m d) (hb : bndQ 7 b) : ∃ rp told row aY aN, ansP 7 s m b d rp told row aY aN := by
  obtain ⟨_, s1, s2, m1, hi, hds⟩ := h
  obtain ⟨b1, b2⟩ := hb
  have s1 : 1 ≤ s := s1
  have s2 : s ≤ 1 := s2
  have m1 : m ≤ 1 := m1
  have b1 : 0 ≤ b.toInt := b1
  have b2 : b.toInt ≤ 3 := b2
  obtain ⟨c, rfl, c1, c2⟩ := nat_b (b := b) (n := 3) (by omega) (by omega)
  have hd : qR d m := fun k hk => by
    unfold aV
    by_cases z : 0 < m
    · rw [if_pos z]
      exact (hi 0 z).2.2.2.2.2.1 rfl k hk
    · rw [if_neg z]
      exact Nat.zero_le _
  refine ⟨(if c ≤ manyR d m then (121 : Int32) else 110), nI (manyR d m), rowR d m c, partsOK (chnR d m) c, signsOK (chnR d m) c, yn_c.1, fun z => (rowR_yes hd (yn_c.2.1 z)).1, fun z => rowR_no (by have := yn_c.2.2 z; omega), fun xs ys h1 h2 => parts_signs (chnR_ok hd).2 h1 h2, ⟨fun z => absurd z (by decide), fun z => absurd z (by decide), fun z => absurd z (by decide), fun z => absurd z (by decide)⟩, fun F e Ln V hF he he2 hk9 hk hq hr => ?_, fun F e r Ln V xs w hF he he2 hr hk hq hR => ?_⟩
  · unfold mX4_solve
    refine sol_clr hk hq hr (fun V2 hk hq hR => ?_)
    rw [hk, if_neg (by decide), if_neg (by decide), if_neg (by decide), if_neg (by decide), if_neg (by decide), if_neg (by decide), if_neg (by decide), if_pos (by decide)]
    exact sol_fin ((T_solveRoots (by omega) he he2 hk9 (by omega) (by omega) hd hq hR).mono (fun p q => by
      obtain ⟨q1, q2, q3, q4⟩ := q
      refine ⟨?_, q3, q4⟩
      by_cases z : c ≤ manyR d m
      · rw [if_pos z]
        exact q1 z
      · rw [if_neg z]
        exact q2 (by omega)))
  · unfold mX4_judge
    rw [hk, if_neg (by decide), if_neg (by decide), if_neg (by decide), if_neg (by decide), if_neg (by decide), if_neg (by decide), if_neg (by decide), if_pos (by decide)]
    refine mTo.ite (fun hw => ?_) (fun hw => ?_)
    · rw [if_pos hw]
      exact mTo.W (T_judgeSigns (by omega) he (by omega) (by omega) (by omega) hd hq hR) (fun v V5 _ q => mTo.ret q)
    · rw [if_neg hw]
      exact mTo.W (T_judgeParts (by omega) he (by omega) (by omega) (by omega) hd hq hR) (fun v V5 _ q => mTo.ret q)
/-- the points of an item; the sixth is the one that is left -/
def pG (d : Nat → Int32) (i p : Nat) : Nat := if p < 5 then (d (5 * i + p)).toNatClampNeg else 15 - ((d (5 * i)).toNatClampNeg + (d (5 * i + 1)).toNatClampNeg + (d (5 * i + 2)).toNatClampNeg + (d (5 * i + 3)).toNatClampNeg + (d (5 * i + 4)).toNatClampNeg)
theorem six_b : allN 6 (fun a => allN 6 (fun b => allN 6 (fun c => allN 6 (fun d => allN 6 (fun e => decide ((a ≠ b ∧ a ≠ c ∧ a ≠ d ∧ a ≠ e ∧ b ≠ c ∧ b ≠ d ∧ b ≠ e ∧ c ≠ d ∧ c ≠ e ∧ d ≠ e) → (a + b + c + d + e ≤ 15 ∧ 15 - (a + b + c + d + e) < 6 ∧ 15 - (a + b + c + d + e) ≠ a ∧ 15 - (a + b + c + d + e) ≠ b ∧ 15 - (a + b + c + d + e) ≠ c ∧ 15 - (a + b + c + d + e) ≠ d ∧ 15 - (a + b + c + d + e) ≠ e))))))) = true := by decide +kernel
theorem six_p (a : Nat) (ha : a < 6) (b : Nat) (hb : b < 6) (c : Nat) (hc : c < 6) (d : Nat) (hd : d < 6) (e : Nat) (he : e < 6) (h1 : a ≠ b) (h2 : a ≠ c) (h3 : a ≠ d) (h4 : a ≠ e) (h5 : b ≠ c) (h6 : b ≠ d) (h7 : b ≠ e) (h8 : c ≠ d) (h9 : c ≠ e) (h10 : d ≠ e) : a + b + c + d + e ≤ 15 ∧ 15 - (a + b + c + d + e) < 6 ∧ 15 - (a + b + c + d + e) ≠ a ∧ 15 - (a + b + c + d + e) ≠ b ∧ 15 - (a + b + c + d + e) ≠ c ∧ 15 - (a + b + c + d + e) ≠ d ∧ 15 - (a + b + c + d + e) ≠ e := of_decide_eq_true (allN_t (allN_t (allN_t (allN_t (allN_t six_b a ha) b hb) c hc) d hd) e he) ⟨h1, h2, h3, h4, h5, h6, h7, h8, h9, h10⟩
theorem pG_ok {d : Nat → Int32} {s i : Nat} (hs : s ≤ 6) (h : (∀ j, j < s → j < 5 → ∃ v, v < s ∧ d (5 * i + j) = nI v) ∧ ∀ i' j, i' < j → j < s → j < 5 → d (5 * i + i') ≠ d (5 * i + j)) : itP d s i (pG d i) := by
  obtain ⟨h1, h2⟩ := h
  have e5 : ∀ p, p < s → p < 5 → d (5 * i + p) = nI (pG d i p) ∧ pG d i p < s := fun p hp h5 => by
    obtain ⟨v, v1, v2⟩ := h1 p hp h5
    unfold pG
    rw [if_pos h5, v2, nI_clamp (by omega)]
    exact ⟨rfl, v1⟩
  have ne5 : ∀ a c, a < c → c < s → c < 5 → pG d i a ≠ pG d i c := fun a c h h' h5 e => by
    have x := (e5 a (by omega) (by omega)).1
    have y := (e5 c h' h5).1
    rw [e, ← y] at x
    exact h2 a c h h' h5 x
  have six : s = 6 → pG d i 5 < 6 ∧ (∀ a, a < 5 → pG d i a ≠ pG d i 5) ∧ pG d i 5 + (pG d i 0 + pG d i 1 + pG d i 2 + pG d i 3 + pG d i 4) = 15 := fun e => by
    have z := six_p _ (by rw [← e]; exact (e5 0 (by omega) (by decide)).2) _ (by rw [← e]; exact (e5 1 (by omega) (by decide)).2) _ (by rw [← e]; exact (e5 2 (by omega) (by decide)).2) _ (by rw [← e]; exact (e5 3 (by omega) (by decide)).2) _ (by rw [← e]; exact (e5 4 (by omega) (by decide)).2) (ne5 0 1 (by omega) (by omega) (by omega)) (ne5 0 2 (by omega) (by omega) (by omega)) (ne5 0 3 (by omega) (by omega) (by omega)) (ne5 0 4 (by omega) (by omega) (by omega)) (ne5 1 2 (by omega) (by omega) (by omega)) (ne5 1 3 (by omega) (by omega) (by omega)) (ne5 1 4 (by omega) (by omega) (by omega)) (ne5 2 3 (by omega) (by omega) (by omega)) (ne5 2 4 (by omega) (by omega) (by omega)) (ne5 3 4 (by omega) (by omega) (by omega))
    have p5 : pG d i 5 = 15 - (pG d i 0 + pG d i 1 + pG d i 2 + pG d i 3 + pG d i 4) := rfl
    rw [← p5] at z
    obtain ⟨z0, z1, z2, z3, z4, z5, z6⟩ := z
    refine ⟨z1, fun a ha => ?_, by omega⟩
    rcases (show a = 0 ∨ a = 1 ∨ a = 2 ∨ a = 3 ∨ a = 4 by omega) with e | e | e | e | e <;> rw [e]
    · exact fun q => z2 q.symm
    · exact fun q => z3 q.symm
    · exact fun q => z4 q.symm
    · exact fun q => z5 q.symm
    · exact fun q => z6 q.symm
  refine ⟨fun p hp h5 => (e5 p hp h5).1, ⟨fun p hp => ?_, fun a c hac hc => ?_⟩, fun e => ?_⟩
  · by_cases h5 : p < 5
    · exact (e5 p hp h5).2
    · have : p = 5 := by omega
      have z := (six (by omega)).1
      rw [this]
      omega
  · by_cases h5 : c < 5
    · exact ne5 a c hac hc h5
    · have : c = 5 := by omega
      rw [this]
      exact (six (by omega)).2.1 a (by omega)
  · have z := (six e).2.2
    have : sm (pG d i) 5 = pG d i 0 + pG d i 1 + pG d i 2 + pG d i 3 + pG d i 4 := by
      simp only [sm]
      omega
    rw [this]
    exact z
theorem ans_g {s m : Nat} {b : Int32} {d : Nat → Int32} (h : itmQ 8 s m d) (hb : bndQ 8 b) : ∃ rp told row aY aN, ansP 8 s m b d rp told row aY aN := by
  obtain ⟨_, s1, s2, m1, hi, hds⟩ := h
  obtain ⟨b1, b2⟩ := hb
  have s1 : 2 ≤ s := s1
  have s2 : s ≤ 6 := s2
  have m1 : m ≤ 5 := m1
  have b1 : 0 ≤ b.toInt := b1
  have b2 : b.toInt ≤ 4 := b2
  obtain ⟨c, rfl, c1, c2⟩ := nat_b (b := b) (n := 4) (by omega) (by omega)
  have hd : qG d m s (pG d) := fun i him => pG_ok (by omega) ((hi i him).2.2.2.2.2.2.1 rfl)
  have lu : luN m c ≤ m ∧ luN m c ≤ 5 := by
    unfold luN
    split <;> omega
  have hP : ∀ i, i < luN m c → isP s (pG d i) := fun i hl => (hd i (by omega)).2.1
  refine ⟨(@ite _ (yesG (pG d) (goalP m (pG d)) s (luN m c - 1)) (Classical.propDecidable _) (121 : Int32) 110), nI (bgA (pG d) s (luN m c - 1)).1.length, rowG (pG d) (goalP m (pG d)) s (luN m c - 1), wordOK (pG d) (goalP m (pG d)) s (luN m c), rowsOK (pG d) (goalP m (pG d)) s (luN m c), yn_c.1, fun z => rowG_yes (by omega) (by omega) (goal_P hd) hP (yn_c.2.1 z), fun z => rowG_no (by omega) (by omega) (goal_P hd) hP (yn_c.2.2 z), fun xs ys h1 h2 => word_rows (by omega) (by omega) hP h1 h2, ⟨fun z => absurd z (by decide), fun z => absurd z (by decide), fun z => absurd z (by decide), fun z => absurd z (by decide)⟩, fun F e Ln V hF he he2 hk9 hk hq hr => ?_, fun F e r Ln V xs w hF he he2 hr hk hq hR => ?_⟩
  · unfold mX4_solve
    refine sol_clr hk hq hr (fun V2 hk hq hR => ?_)
    rw [hk, if_neg (by decide), if_neg (by decide), if_neg (by decide), if_neg (by decide), if_neg (by decide), if_neg (by decide), if_neg (by decide), if_neg (by decide), if_pos (by decide)]
    exact sol_fin ((T_solvePermutations (by omega) he he2 hk9 (by omega) (by omega) (by omega) (by omega) hd hq hR).mono (fun p q => by
      obtain ⟨q1, q2, q3, q4⟩ := q
      refine ⟨?_, q3, q4⟩
      by_cases z : yesG (pG d) (goalP m (pG d)) s (luN m c - 1)
      · rw [if_pos z]
        exact q1 z
      · rw [if_neg z]
        exact q2 z))
  · unfold mX4_judge
    rw [hk, if_neg (by decide), if_neg (by decide), if_neg (by decide), if_neg (by decide), if_neg (by decide), if_neg (by decide), if_neg (by decide), if_neg (by decide), if_pos (by decide)]
    refine mTo.ite (fun hw => ?_) (fun hw => ?_)
    · rw [if_pos hw]
      exact mTo.W (T_judgeRows (by omega) he hr (by omega) (by omega) (by omega) hd hq hR) (fun v V5 _ q => mTo.ret q)
    · rw [if_neg hw]
      exact mTo.W (T_judgeItems (by omega) he hr (by omega) (by omega) (by omega) hd hq hR) (fun v V5 _ q => mTo.ret q)
theorem ans_w {s m : Nat} {b : Int32} {d : Nat → Int32} (h : itmQ 9 s m d) (hb : bndQ 9 b) : ∃ rp told row aY aN, ansP 9 s m b d rp told row aY aN := by
  obtain ⟨_, s1, s2, m1, hi, hds⟩ := h
  obtain ⟨b1, b2⟩ := hb
  have s1 : 1 ≤ s := s1
  have s2 : s ≤ 1 := s2
  have m1 : m ≤ 6 := m1
  have b1 : 0 ≤ b.toInt := b1
  have b2 : b.toInt ≤ 7 := b2
  obtain ⟨c, rfl, c1, c2⟩ := nat_b (b := b) (n := 7) (by omega) (by omega)
  have hd : qW d m (cA d) (cB d) := fun i him => by
    obtain ⟨a, e, x0, x1, y1, y2, y3, y4, y5⟩ := (hi i him).2.2.2.2.2.2.2.1 rfl
    have x0 : d (5 * i) = nI a := x0
    have x1 : d (5 * i + 1) = nI e := x1
    unfold cA cB
    rw [x0, x1, nI_clamp (by omega), nI_clamp (by omega)]
    exact ⟨rfl, rfl, y1, y2, y3, y4, y5⟩
  refine ⟨(@ite _ (yesW (cA d) (cB d) c m) (Classical.propDecidable _) (121 : Int32) 110), nI (manyW (cA d) (cB d) c m), rowW (cA d) (cB d) c m, stepsOK (cA d) (cB d) c m, closOK (cA d) (cB d) c m, yn_c.1, fun z => rowW_yes hd (by omega) (yn_c.2.1 z), fun z => rowW_no hd (by omega) (yn_c.2.2 z), fun xs ys h1 h2 => steps_clos (by omega) hd h1 h2, ⟨fun z => absurd z (by decide), fun z => absurd z (by decide), fun z => absurd z (by decide), fun z => absurd z (by decide)⟩, fun F e Ln V hF he he2 hk9 hk hq hr => ?_, fun F e r Ln V xs w hF he he2 hr hk hq hR => ?_⟩
  · unfold mX4_solve
    refine sol_clr hk hq hr (fun V2 hk hq hR => ?_)
    rw [hk, if_neg (by decide), if_neg (by decide), if_neg (by decide), if_neg (by decide), if_neg (by decide), if_neg (by decide), if_neg (by decide), if_neg (by decide), if_neg (by decide), if_pos (by decide)]
    exact sol_fin ((T_solveWords (by omega) he he2 hk9 (by omega) (by omega) hd hq hR).mono (fun p q => by
      obtain ⟨q1, q2, q3, q4⟩ := q
      refine ⟨?_, q3, q4⟩
      by_cases z : yesW (cA d) (cB d) c m
      · rw [if_pos z]
        exact q1 z
      · rw [if_neg z]
        exact q2 z))
  · unfold mX4_judge
    rw [hk, if_neg (by decide), if_neg (by decide), if_neg (by decide), if_neg (by decide), if_neg (by decide), if_neg (by decide), if_neg (by decide), if_neg (by decide), if_neg (by decide), if_pos (by decide)]
    refine mTo.ite (fun hw => ?_) (fun hw => ?_)
    · rw [if_pos hw]
      exact mTo.W (T_judgeClosure (by omega) he hr (by omega) (by omega) hd hq hR) (fun v V5 _ q => mTo.ret q)
    · rw [if_neg hw]
      exact mTo.W (T_judgeSteps (by omega) he hr (by omega) (by omega) hd hq hR) (fun v V5 _ q => mTo.ret q)
theorem ans_a {s m : Nat} {b : Int32} {d : Nat → Int32} (h : itmQ 10 s m d) (hb : bndQ 10 b) : ∃ rp told row aY aN, ansP 10 s m b d rp told row aY aN := by
  obtain ⟨_, s1, s2, m1, hi, hds⟩ := h
  obtain ⟨b1, b2⟩ := hb
  have s1 : 1 ≤ s := s1
  have s2 : s ≤ 8 := s2
  have m1 : m ≤ s := m1
  have b1 : 0 ≤ b.toInt := b1
  have b2 : b.toInt ≤ 7 := b2
  obtain ⟨c, rfl, c1, c2⟩ := nat_b (b := b) (n := 7) (by omega) (by omega)
  obtain ⟨Z, hZ⟩ : ∃ Z : Nat → Nat, ∀ i, Z i = if i < m then cA d i else i := ⟨_, fun _ => rfl⟩
  obtain ⟨O, hO⟩ : ∃ O : Nat → Nat, ∀ i, O i = if i < m then cB d i else i := ⟨_, fun _ => rfl⟩
  obtain ⟨Fi, hFi⟩ : ∃ Fi : Nat → Nat, ∀ i, Fi i = if i < m then cC d i else 0 := ⟨_, fun _ => rfl⟩
  have hd : qA d m s Z O Fi := fun i his => by
    rw [hZ, hO, hFi]
    by_cases him : i < m
    · obtain ⟨a, e, f, x0, x1, x2, y1, y2, y3⟩ := (hi i him).2.2.2.2.2.2.2.2.1 rfl
      have x0 : d (5 * i) = nI a := x0
      have x1 : d (5 * i + 1) = nI e := x1
      have x2 : d (5 * i + 2) = nI f := x2
      rw [if_pos him, if_pos him, if_pos him]
      unfold cA cB cC
      rw [x0, x1, x2, nI_clamp (by omega), nI_clamp (by omega), nI_clamp (by omega)]
      exact ⟨fun _ => ⟨rfl, rfl, rfl⟩, fun z => absurd him (by omega), y1, y2, y3⟩
    · rw [if_neg him, if_neg him, if_neg him]
      exact ⟨fun z => absurd z him, fun _ => ⟨rfl, rfl, rfl⟩, his, his, by omega⟩
  have hq0 : qN s c < s := by
    unfold qN
    split <;> omega
  refine ⟨(if tn Z O Fi 9 0 (qN s c) = 0 then (121 : Int32) else 110), nI (cnt (fun a => decide (lk Z O Fi a = a)) s), rowA s Z O Fi (qN s c), likeOK s Z O Fi (qN s c), lettOK Z O Fi (qN s c), yn_c.1, fun z => rowA_yes (by omega) (by omega) hq0 hd (yn_c.2.1 z), fun z => rowA_no (yn_c.2.2 z), fun xs ys h1 h2 => like_lett (fun i hi => ⟨(hd i hi).2.2.1, (hd i hi).2.2.2.1⟩) (by omega) hq0 h1 h2, ⟨fun z => absurd z (by decide), fun z => absurd z (by decide), fun z => absurd z (by decide), fun z => absurd z (by decide)⟩, fun F e Ln V hF he he2 hk9 hk hq hr => ?_, fun F e r Ln V xs w hF he he2 hr hk hq hR => ?_⟩
  · unfold mX4_solve
    refine sol_clr hk hq hr (fun V2 hk hq hR => ?_)
    rw [hk, if_neg (by decide), if_neg (by decide), if_neg (by decide), if_neg (by decide), if_neg (by decide), if_neg (by decide), if_neg (by decide), if_neg (by decide), if_neg (by decide), if_neg (by decide), if_pos (by decide)]
    exact sol_fin (T_solveMachines (by omega) he he2 hk9 (by omega) (by omega) (by omega) (by omega) hd hq hR)
  · unfold mX4_judge
    rw [hk, if_neg (by decide), if_neg (by decide), if_neg (by decide), if_neg (by decide), if_neg (by decide), if_neg (by decide), if_neg (by decide), if_neg (by decide), if_neg (by decide), if_neg (by decide), if_pos (by decide)]
    refine mTo.ite (fun hw => ?_) (fun hw => ?_)
    · rw [if_pos hw]
      exact mTo.W (T_judgeLetters (by omega) he hr (by omega) (by omega) (by omega) (by omega) hd hq hR) (fun v V5 _ q => mTo.ret q)
    · rw [if_neg hw]
      exact mTo.W (T_judgeLikeness (by omega) he hr (by omega) (by omega) (by omega) (by omega) hd hq hR) (fun v V5 _ q => mTo.ret q)
theorem ans_x {s m : Nat} {b : Int32} {d : Nat → Int32} (h : itmQ 11 s m d) (hb : bndQ 11 b) : ∃ rp told row aY aN, ansP 11 s m b d rp told row aY aN := by
  obtain ⟨_, s1, s2, m1, hi, hds⟩ := h
  obtain ⟨b1, b2⟩ := hb
  have s1 : 1 ≤ s := s1
  have s2 : s ≤ 7 := s2
  have m1 : m ≤ s := m1
  have b1 : 0 ≤ b.toInt := b1
  have b2 : b.toInt ≤ 6 := b2
  obtain ⟨c, rfl, c1, c2⟩ := nat_b (b := b) (n := 6) (by omega) (by omega)
  obtain ⟨own, ho⟩ : ∃ own : Nat → Nat, ∀ i, own i = if i < m then cA d i else 0 := ⟨_, fun _ => rfl⟩
  obtain ⟨wt, hwt⟩ : ∃ wt : Nat → Nat, ∀ i, wt i = if i < m then cB d i else 0 := ⟨_, fun _ => rfl⟩
  obtain ⟨W, hW⟩ : ∃ W : Nat → Nat, ∀ i, W i = if i < m then wyI d i 3 else 2 ^ i := ⟨_, fun _ => rfl⟩
  have hd : qX d m s own wt W := fun i his => by
    rw [ho, hwt, hW]
    by_cases him : i < m
    · obtain ⟨a, e, f, x0, x1, x2, y1, y2, y3, y4⟩ := (hi i him).2.2.2.2.2.2.2.2.2 rfl
      have x0 : d (5 * i) = nI a := x0
      have x1 : d (5 * i + 1) = nI e := x1
      have x2 : d (5 * i + 2) = nI f := x2
      have y4 : ∀ j, j < 2 → d (5 * i + (3 + j)) = -1 ∨ ∃ u, u < s ∧ d (5 * i + (3 + j)) = nI u := y4
      have y4 : ∀ j, j < 2 → d (5 * i + (3 + j)) < 0 ∨ ∃ u, u < s ∧ d (5 * i + (3 + j)) = nI u := fun j hj => (y4 j hj).imp (fun e => by rw [e]; decide) id
      rw [if_pos him, if_pos him, if_pos him]
      unfold cA cB
      rw [x0, x1, nI_clamp (by omega), nI_clamp (by omega)]
      refine ⟨fun _ => ⟨rfl, rfl, rfl, fun k hk => ?_, ?_⟩, fun z => absurd him (by omega), y1, y2⟩
      · rcases (show k = 0 ∨ k = 1 ∨ k = 2 by omega) with z | z | z
        · rw [z, Nat.add_zero, x2]
          exact Or.inr ⟨f, y3, rfl⟩
        · have := y4 0 (by decide)
          rw [z]
          exact this
        · have := y4 1 (by decide)
          rw [z]
          exact this
      · rw [x2]
        exact nI_pos (by omega)
    · rw [if_neg him, if_neg him, if_neg him]
      exact ⟨fun z => absurd z him, fun _ => ⟨rfl, rfl, rfl⟩, by omega, by omega⟩
  have hq0 : qN s c < s := by
    unfold qN
    split <;> omega
  have hB := qX_b (by omega) hd
  have hWx := qX_w (by omega) hd
  have wp := wpl_ok (own := own) (w := wt) (W := W) (s := s) (q := qN s c)
  refine ⟨(if wpl own wt W s (qN s c) = 0 then (121 : Int32) else 110), nI (pop (zkN own wt W s 48 (2 ^ s - 1))), rowX own wt W s (qN s c) (wpl own wt W s (qN s c)) s, gameOK s own wt W (qN s c) 0, gameOK s own wt W (qN s c) 1, yn_c.1, fun z => by
    have g := rowX_ok hB hWx hq0 wp.1 wp.2
    rw [yn_c.2.1 z] at g ⊢
    exact g, fun z => by
    have n0 := yn_c.2.2 z
    have e1 : wpl own wt W s (qN s c) = 1 := by have := wp.1; omega
    have g := rowX_ok hB hWx hq0 wp.1 wp.2
    rw [e1] at g ⊢
    exact g, fun xs ys h1 h2 => games_no hB hWx hq0 h1 h2, ⟨fun z => absurd z (by decide), fun z => absurd z (by decide), fun z => absurd z (by decide), fun z => absurd z (by decide)⟩, fun F e Ln V hF he he2 hk9 hk hq hr => ?_, fun F e r Ln V xs w hF he he2 hr hk hq hR => ?_⟩
  · unfold mX4_solve
    refine sol_clr hk hq hr (fun V2 hk hq hR => ?_)
    rw [hk, if_neg (by decide), if_neg (by decide), if_neg (by decide), if_neg (by decide), if_neg (by decide), if_neg (by decide), if_neg (by decide), if_neg (by decide), if_neg (by decide), if_neg (by decide), if_neg (by decide)]
    exact sol_fin (T_solveGames (by omega) he he2 hk9 (by omega) (by omega) (by omega) (by omega) hd hq hR)
  · unfold mX4_judge
    rw [hk, if_neg (by decide), if_neg (by decide), if_neg (by decide), if_neg (by decide), if_neg (by decide), if_neg (by decide), if_neg (by decide), if_neg (by decide), if_neg (by decide), if_neg (by decide), if_neg (by decide)]
    refine mTo.ite (fun hw => ?_) (fun hw => ?_)
    · rw [if_pos hw]
      exact mTo.W (T_judgeGame (pl := 1) (by omega) he hr (by omega) (by omega) (by omega) (by omega) (by decide) hd hq hR) (fun v V5 _ q => mTo.ret q)
    · rw [if_neg hw]
      exact mTo.W (T_judgeGame (pl := 0) (by omega) he hr (by omega) (by omega) (by omega) (by omega) (by decide) hd hq hR) (fun v V5 _ q => mTo.ret q)
theorem ans_ex {k s m : Nat} {b : Int32} {d : Nat → Int32} (h : itmQ k s m d) (hb : bndQ k b) : ∃ rp told row aY aN, ansP k s m b d rp told row aY aN := by
  have k12 := h.1
  rcases (show k = 0 ∨ k = 1 ∨ k = 2 ∨ k = 3 ∨ k = 4 ∨ k = 5 ∨ k = 6 ∨ k = 7 ∨ k = 8 ∨ k = 9 ∨ k = 10 ∨ k = 11 by omega) with e | e | e | e | e | e | e | e | e | e | e | e <;> subst e
  · exact ans_m h hb
  · exact ans_f h hb
  · exact ans_p h hb
  · exact ans_l h hb
  · exact ans_s h hb
  · exact ans_d h hb
  · exact ans_n h hb
  · exact ans_r h hb
  · exact ans_g h hb
  · exact ans_w h hb
  · exact ans_a h hb
  · exact ans_x h hb
end
