/-! THE PURE PART, flows: what the judges accept; weak duality; the kept row is accepted. -/
section
/-- the numbers of a row, as a set -/
def rowSt (xs : List Int32) (v : Nat) : Bool := (List.range xs.length).any fun i => decide (xs.getD i 0 = nI v)
theorem rowSt_iff {xs : List Int32} {v : Nat} : rowSt xs v = true ↔ ∃ i, i < xs.length ∧ xs.getD i 0 = nI v := by
  unfold rowSt
  rw [List.any_eq_true]
  constructor
  · rintro ⟨i, h1, h2⟩
    exact ⟨i, List.mem_range.mp h1, of_decide_eq_true h2⟩
  · rintro ⟨i, h1, h2⟩
    exact ⟨i, List.mem_range.mpr h1, decide_eq_true h2⟩
theorem rowHas_eq {Ln : Nat → Nat} {V : mV} {r : Nat} {xs : List Int32} (h : rowIs Ln V r xs) : rowHas V r xs.length = rowSt xs := by
  funext v
  rw [Bool.eq_iff_iff, rowHas_iff, rowSt_iff]
  exact ⟨fun ⟨i, a, b⟩ => ⟨i, a, by rw [← h.2.2.2 i a]; exact b⟩, fun ⟨i, a, b⟩ => ⟨i, a, by rw [h.2.2.2 i a]; exact b⟩⟩
/-- the question of flows -/
def qF (d : Nat → Int32) (m y : Nat) (A B C : Nat → Nat) : Prop := ∀ i, i < m → d (5 * i) = nI (A i) ∧ d (5 * i + 1) = nI (B i) ∧ d (5 * i + 2) = nI (C i) ∧ A i < y + 2 ∧ B i < y + 2 ∧ A i ≠ B i ∧ C i ≤ 6
def barOK (m y : Nat) (A B C : Nat → Nat) (b : Nat) (xs : List Int32) : Prop := xs.length ≠ 0 ∧ xs.getD 0 0 = 0 ∧ (∀ i, 0 ≤ i → i + 1 < xs.length → xs.getD i 0 < xs.getD (i + 1) 0) ∧ inRow xs (y + 1) ∧ nsum (barW (rowSt xs) A B C) m < b
def flowOK (m y : Nat) (A B C : Nat → Nat) (b : Nat) (xs : List Int32) : Prop := xs.length = m ∧ (∀ i, i < m → 0 ≤ (xs.getD i 0).toInt ∧ (xs.getD i 0).toInt ≤ C i) ∧ (∀ v, 1 ≤ v → v < y + 1 → exs A B (fun i => (xs.getD i 0).toInt) v m = 0) ∧ exs A B (fun i => (xs.getD i 0).toInt) 0 m = b
theorem T_judgeBar {F : Nat} {Ln : Nat → Nat} {V : mV} {e r m y b : Nat} {A B C : Nat → Nat} {d : Nat → Int32} {xs : List Int32} (hF : 2 ^ 21 ≤ F) (he : 256 ≤ e) (hr : 256 ≤ r) (h10 : m ≤ 10) (hy : y ≤ 5) (hq : enQ V e (y + 2) m (nI b) d) (hR : rowIs Ln V r xs) (hd : qF d m y A B C) (hb : b ≤ 1000) : mTo (mX7_judgeBar F Ln e r V) (fun p => p.1 = 0 ↔ barOK m y A B C b xs) := by
  unfold mX7_judgeBar mX7_judgeBar_s
  refine mTo.W (T_loadFlows (by omega) he h10 hq.2.1) (fun v1 V1 _ q => ?_)
  obtain ⟨q8, q9, q3, qa⟩ := q
  have q8 : V1.fI 2 8 = V.fI e 1 := q8
  have q9 : V1.fI 2 9 = nI m := q9
  have q3 : ∀ i, i < m → V1.rI 21 i = V.rI (e + 1) (5 * i) ∧ V1.rI 22 i = V.rI (e + 1) (5 * i + 1) ∧ V1.rI 23 i = V.rI (e + 1) (5 * i + 2) := q3
  have hq1 := hq.mv qa (by unfold wX7_loadFlows; omega) (by unfold wX7_loadFlows; omega)
  have hR1 := hR.mv qa (by unfold wX7_loadFlows; omega) (by unfold wX7_loadFlows; omega)
  have n := hR.n
  have no : ∀ {P : Prop}, (1 : Int32) = 0 → P := fun z => absurd z (by decide)
  refine mTo.eqI (b := 0) hR1.1 rfl (by omega) (by omega) (fun h0 => mTo.ret ⟨fun z => no z, fun z => absurd h0 z.1⟩) (fun h0 => ?_)
  refine mTo.so (T_rAt (j := 0) hR1 (by omega)) (mTo.ite (fun e0 => ?_) (fun e0 => mTo.ret ⟨fun z => no z, fun z => absurd z.2.1 e0⟩))
  refine mTo.N (T_rRising (j := 0) (by omega) hR1 (by omega)) (fun v _ q => mTo.tf q (fun hc => mTo.ret ⟨fun z => no z, fun z => absurd z.2.2.1 hc⟩) (fun hri => ?_))
  refine mTo.N (T_rWithin (j := 0) (by omega) hR1 (by omega)) (fun v _ q => mTo.tf q (fun hc => mTo.ret ⟨fun z => no z, fun z => absurd ((inRow_iff (s := y + 1) (by omega) (by omega)).mp z.2.2.2.1) (fun y' => hc (by rw [q8, hq.1, nI_sub2]; rw [nI_pred] at y'; exact y'))⟩) (fun hwi => ?_))
  have hwi : inRow xs (y + 1) := (inRow_iff (s := y + 1) (by omega) (by omega)).mpr (by rw [q8, hq.1, nI_sub2] at hwi; rw [nI_pred]; exact hwi)
  have le := nsum_le (w := barW (rowSt xs) A B C) (M := 6) m (fun i hi => by
    unfold barW
    by_cases z : rowSt xs (A i) = true ∧ rowSt xs (B i) = false
    · rw [if_pos z]
      exact (hd i hi).2.2.2.2.2.2
    · rw [if_neg z]
      omega)
  refine (T_judgeBar_go (e := e) (A := A) (B := B) (C := C) (by omega) hR1.1 hR1.2.1 hR1.L (fun i hi => by rw [hR1.2.2.2 i (by omega), hR1.2.2.2 (i + 1) hi]; exact hri i (Nat.zero_le _) hi) h10 q9 (fun i hi => by rw [(q3 i hi).1, hq.2.2.2 _ (by omega)]; exact (hd i hi).1) (fun i hi => by rw [(q3 i hi).2.1, hq.2.2.2 _ (by omega)]; exact (hd i hi).2.1) (fun i hi => by rw [(q3 i hi).2.2, hq.2.2.2 _ (by omega)]; exact (hd i hi).2.2.1) m F 0 (by omega) (by omega) (Nat.zero_le _)).mono (fun p hp => ?_)
  rw [hp.2, rowHas_eq hR1, show V1.fI e 8 = nI b from hq1.2.2.1, nI_leI (by omega) (by omega)]
  exact ⟨fun z => ⟨h0, e0, hri, hwi, by omega⟩, fun z => by have := z.2.2.2.2; omega⟩
theorem T_judgeFlow {F : Nat} {Ln : Nat → Nat} {V : mV} {e r m y b : Nat} {A B C : Nat → Nat} {d : Nat → Int32} {xs : List Int32} (hF : 2 ^ 22 ≤ F) (he : 256 ≤ e) (hr : 256 ≤ r) (h10 : m ≤ 10) (hy : y ≤ 5) (hq : enQ V e (y + 2) m (nI b) d) (hR : rowIs Ln V r xs) (hd : qF d m y A B C) (hb : b ≤ 1000) : mTo (mX7_judgeFlow F Ln e r V) (fun p => p.1 = 0 ↔ flowOK m y A B C b xs) := by
  unfold mX7_judgeFlow mX7_judgeFlow_s
  refine mTo.W (T_loadFlows (by omega) he h10 hq.2.1) (fun v1 V1 _ q => ?_)
  obtain ⟨q8, q9, q3, qa⟩ := q
  have q8 : V1.fI 2 8 = V.fI e 1 := q8
  have q9 : V1.fI 2 9 = nI m := q9
  have q3 : ∀ i, i < m → V1.rI 21 i = V.rI (e + 1) (5 * i) ∧ V1.rI 22 i = V.rI (e + 1) (5 * i + 1) ∧ V1.rI 23 i = V.rI (e + 1) (5 * i + 2) := q3
  have hq1 := hq.mv qa (by unfold wX7_loadFlows; omega) (by unfold wX7_loadFlows; omega)
  have hR1 := hR.mv qa (by unfold wX7_loadFlows; omega) (by unfold wX7_loadFlows; omega)
  have n := hR.n
  have no : ∀ {P : Prop}, (1 : Int32) = 0 → P := fun z => absurd z (by decide)
  refine mTo.eqI hR1.1 q9 (by omega) (by omega) (fun hcm => ?_) (fun hcm => mTo.ret ⟨fun z => no z, fun z => absurd z.1 hcm⟩)
  refine mTo.W (T_fill (F := F) (a := 26) (N := 7) (by omega) rfl (by omega)) (fun v2 V2 _ qf => ?_)
  obtain ⟨z0, qb⟩ := qf
  have z0 : ∀ i, i < 7 → V2.rI 26 i = 0 := z0
  have qb : mAv (wJ7_fill_53178 26) V1 V2 := qb
  have w : ∀ i, i ≠ 26 → V2.fI i = V1.fI i ∧ V2.rI i = V1.rI i := fun i hi => by
    have := qb.1 i (by unfold wJ7_fill_53178; omega)
    exact ⟨this.1, this.2.2.1⟩
  have hR2 := hR1.mv qb (by unfold wJ7_fill_53178; omega) (by unfold wJ7_fill_53178; omega)
  have hq2 := hq1.mv qb (by unfold wJ7_fill_53178; omega) (by unfold wJ7_fill_53178; omega)
  refine (T_judgeFlow_0 (e := e) (A := A) (B := B) (C := C) (f := fun i => (xs.getD i 0).toInt) (y := y) (by omega) hr hy h10 (show m ≤ Ln (r + 1) by have := hR2.2.1; omega) hR2.L (fun i hi => by have := hd i hi; omega) (fun i hi => by have := hd i hi; omega) (fun i hi => by have := hd i hi; omega) m F 0 (by omega) (by omega) (Nat.zero_le _) V2 (by rw [hR2.1, hcm]) (by rw [(w 2 (by decide)).1, q8, hq.1]) (by rw [(w 2 (by decide)).1, q9]) (fun i hi => by rw [(w 21 (by decide)).2, (q3 i hi).1, hq.2.2.2 _ (by omega)]; exact (hd i hi).1) (fun i hi => by rw [(w 22 (by decide)).2, (q3 i hi).2.1, hq.2.2.2 _ (by omega)]; exact (hd i hi).2.1) (fun i hi => by rw [(w 23 (by decide)).2, (q3 i hi).2.2, hq.2.2.2 _ (by omega)]; exact (hd i hi).2.2.1) (fun i hi => by rw [hR2.2.2.2 i (by omega)]) (fun v hv => by rw [z0 v hv, exs]; rfl) (fun i hi => absurd hi (Nat.not_lt_zero i))).mono (fun p hp => ?_)
  rw [hp, show V2.fI e 8 = nI b from hq2.2.2.1, nI_toInt (by omega)]
  exact ⟨fun z => ⟨hcm, z⟩, fun z => z.2⟩
theorem flow_bars {m y b : Nat} {A B C : Nat → Nat} {d : Nat → Int32} {xs ys : List Int32} (hy : y ≤ 5) (hd : qF d m y A B C) (h1 : flowOK m y A B C b xs) (h2 : barOK m y A B C b ys) : False := by
  obtain ⟨a1, a2, a3, a4⟩ := h1
  obtain ⟨b1, b2, b3, b4, b5⟩ := h2
  have := flow_bar (X := rowSt ys) (C := C) (y := y) (m := m) a2 (fun i hi => ⟨(hd i hi).2.2.2.1, (hd i hi).2.2.2.2.1⟩) (rowSt_iff.mpr ⟨0, by omega, b2⟩) (by
    cases z : rowSt ys (y + 1) with
    | false => rfl
    | true =>
      obtain ⟨i, i1, i2⟩ := rowSt_iff.mp z
      obtain ⟨j, j1, j2⟩ := b4 i i1
      rw [i2] at j2
      have := (nI_eq (by omega) (by omega)).mp j2
      omega) a3
  omega
theorem exs_cg {A B : Nat → Nat} {f g : Nat → Int} {v : Nat} : ∀ m, (∀ i, i < m → f i = g i) → exs A B f v m = exs A B g v m
  | 0, _ => rfl
  | m + 1, h => by rw [exs, exs, exs_cg m (fun i hi => h i (by omega)), h m (by omega)]
theorem nsum_cg {f g : Nat → Nat} : ∀ m, (∀ i, i < m → f i = g i) → nsum f m = nsum g m
  | 0, _ => rfl
  | m + 1, h => by rw [nsum, nsum, nsum_cg m (fun i hi => h i (by omega)), h m (by omega)]
theorem filL_st {X : Nat → Bool} {n v : Nat} (hn : n < 2 ^ 20) (hv : v < n) : rowSt (filL X n) v = X v := by
  obtain ⟨a, b, _⟩ := filL_in (X := X) n
  rw [Bool.eq_iff_iff, rowSt_iff]
  constructor
  · rintro ⟨i, i1, i2⟩
    obtain ⟨w, w1, w2, w3⟩ := a i i1
    rw [i2] at w3
    rw [(nI_eq (by omega) (by omega)).mp w3]
    exact w2
  · intro h
    exact b v hv h
theorem filL_in2 {X : Nat → Bool} {n s : Nat} (h : ∀ v, v < n → X v = true → v < s) : inRow (filL X n) s := fun i hi => by
  obtain ⟨v, v1, v2, v3⟩ := (filL_in (X := X) n).1 i hi
  exact ⟨v, h v v1 v2, v3⟩
theorem filL_0 {X : Nat → Bool} {n : Nat} (hn : n < 2 ^ 20) (h0 : 0 < n) (hx : X 0 = true) : (filL X n).length ≠ 0 ∧ (filL X n).getD 0 0 = 0 := by
  obtain ⟨a, b, _⟩ := filL_in (X := X) n
  obtain ⟨i, i1, i2⟩ := b 0 h0 hx
  refine ⟨by omega, ?_⟩
  rcases Nat.eq_zero_or_pos i with z | z
  · rw [z] at i2
    exact i2
  · have h := rise_all (f := fun i => (filL X n).getD i 0) (filL_rise n hn) 0 i z i1
    have h : ((filL X n).getD 0 0).toInt < ((filL X n).getD i 0).toInt := h
    obtain ⟨v, v1, _, v3⟩ := a 0 (by omega)
    rw [i2, v3, nI_toInt (by omega), nI_toInt (by omega)] at h
    omega
theorem qF_b {d : Nat → Int32} {m y : Nat} {A B C : Nat → Nat} (hy : y ≤ 5) (h10 : m ≤ 10) (hd : qF d m y A B C) : flB (y + 2) m A B C (fun _ => 0) ∧ ∀ i, i < m → C i ≤ 6 := ⟨⟨by omega, h10, fun i hi => ⟨(hd i hi).2.2.2.1, (hd i hi).2.2.2.2.1, (hd i hi).2.2.2.2.2.1, by have := (hd i hi).2.2.2.2.2.2; omega, Nat.zero_le _⟩⟩, fun i hi => (hd i hi).2.2.2.2.2.2⟩
theorem rowF_yes {d : Nat → Int32} {m y b : Nat} {A B C : Nat → Nat} (hy : y ≤ 5) (h10 : m ≤ 10) (hd : qF d m y A B C) (h : b ≤ gr A B C (y + 2) m) : flowOK m y A B C b (rowF A B C (y + 2) m b) := by
  obtain ⟨hb0, hC⟩ := qF_b hy h10 hd
  obtain ⟨g1, g2, g3⟩ := gr_spec hb0 hC
  have ok : ∀ j, j < b → okK A B C (y + 2) m j = true := fun j hj => g1 j (by omega)
  obtain ⟨k1, _⟩ := fK_ok hb0 b ok
  obtain ⟨v1, v2⟩ := fK_val hb0 ok
  obtain ⟨l1, l2⟩ := lwA_ok k1 m (Nat.le_refl _)
  unfold rowF
  rw [if_pos h]
  have val : ∀ i, i < m → ((rwL (lwA A B C (y + 2) m (fK A B C (y + 2) m b) m) m).getD i 0).toInt = (lwA A B C (y + 2) m (fK A B C (y + 2) m b) m i : Nat) := fun i hi => by
    rw [rwL_at m hi, nI_toInt (by have := (l1.2.2 i hi).2.2.2; omega)]
  refine ⟨rwL_len m, fun i hi => ?_, fun v a1 a2 => ?_, ?_⟩
  · rw [val i hi]
    have := (l1.2.2 i hi).2.2.2.2
    omega
  · rw [exs_cg m (fun i hi => val i hi), l2 v, v2 v a1 a2]
  · rw [exs_cg m (fun i hi => val i hi), l2 0, v1]
theorem rowF_no {d : Nat → Int32} {m y b : Nat} {A B C : Nat → Nat} (hy : y ≤ 5) (h10 : m ≤ 10) (hd : qF d m y A B C) (h : ¬ b ≤ gr A B C (y + 2) m) : barOK m y A B C b (rowF A B C (y + 2) m b) := by
  obtain ⟨hb0, hC⟩ := qF_b hy h10 hd
  obtain ⟨c1, c2, c3, c4⟩ := rcK_cut hb0 hC
  unfold rowF
  rw [if_neg h]
  obtain ⟨f1, f2⟩ := filL_0 (X := fun v => (rcK A B C (y + 2) m).testBit v) (n := y + 2) (by omega) (by omega) c1
  refine ⟨f1, f2, fun i _ hi => filL_rise _ (by omega) i hi, filL_in2 (fun v a1 a2 => ?_), ?_⟩
  · have a2 : (rcK A B C (y + 2) m).testBit v = true := a2
    rcases Nat.lt_or_ge v (y + 1) with z | z
    · exact z
    · have : v = y + 1 := by omega
      rw [this, c2] at a2
      exact absurd a2 (by decide)
  · rw [nsum_cg m (g := barW (fun v => (rcK A B C (y + 2) m).testBit v) A B C) (fun i hi => by
      unfold barW
      rw [filL_st (by omega) (hd i hi).2.2.2.1, filL_st (by omega) (hd i hi).2.2.2.2.1]), c4]
    omega
end
