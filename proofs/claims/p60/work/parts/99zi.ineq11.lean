/-! THE PURE PART, inequalities: the two tables of an entry; what is written is accepted. -/
section
def sgL (d : Nat → Int32) (m : Nat) (b : Int32) (i : Nat) : Int := if lmZ d m b i < 0 then -1 else 1
theorem sgL_s (d : Nat → Int32) (m : Nat) (b : Int32) (i : Nat) : sgL d m b i * sgL d m b i = 1 := by
  unfold sgL
  split <;> rfl
theorem sgL_n (d : Nat → Int32) (m : Nat) (b : Int32) (i : Nat) : (sgL d m b i).natAbs = 1 := by
  unfold sgL
  split <;> rfl
/-- the columns for the unknowns -/
def cU (d : Nat → Int32) (s m : Nat) (b : Int32) (l i : Nat) : Int := if l < s then sgL d m b i * tmZ d m i l else if l < s + (m + 1) then (if i = l - s then sgL d m b i else 0) else if l < s + (m + 1) + (m + 1) then uni (l - (s + (m + 1))) i else sgL d m b i * lmZ d m b i
/-- the columns for the weights -/
def cW (d : Nat → Int32) (s m : Nat) (b : Int32) (l i : Nat) : Int := if l < m + 1 then (if i = s then -lmZ d m b l else tmZ d m l i) else if l < m + 1 + s then (if i = l - (m + 1) then -1 else 0) else if l < m + 1 + s + (s + 1) then uni (l - (m + 1 + s)) i else if i = s then 1 else 0
theorem uSm_uni {f : Nat → Int} {k : Nat} : ∀ n, (∀ i, i < n → (f i).natAbs ≤ if i = k then 1 else 0) → uSm f n ≤ if k < n then 1 else 0
  | 0, _ => Nat.zero_le _
  | n + 1, h => by
    have ih := uSm_uni n (fun i hi => h i (by omega))
    have hn := h n (by omega)
    rw [uSm]
    by_cases z : n = k
    · rw [if_pos z] at hn
      rw [if_neg (by omega)] at ih
      rw [if_pos (by omega)]
      omega
    · rw [if_neg z] at hn
      by_cases y : k < n
      · rw [if_pos y] at ih
        rw [if_pos (by omega)]
        omega
      · rw [if_neg y] at ih
        omega
theorem cU_B {d : Nat → Int32} {s m : Nat} {b : Int32} (hs : s ≤ 4) (h : qL d s m b) : bdA (cU d s m b) (m + 1) (s + (m + 1)) 47239200 := bd_one hs (fun u i hu _ => by
    unfold cU
    rw [if_pos hu, Int.natAbs_mul, sgL_n, Nat.one_mul]
    exact tmZ_b h hu) (fun l h1 h2 => by
    by_cases z : l < s + (m + 1)
    · refine Nat.le_trans (uSm_uni (k := l - s) (m + 1) (fun i _ => ?_)) (by split <;> omega)
      unfold cU
      rw [if_neg (by omega), if_pos z]
      split
      · rw [sgL_n]
        exact Nat.le_refl _
      · exact Nat.le_refl _
    · refine Nat.le_trans (uSm_uni (k := l - (s + (m + 1))) (m + 1) (fun i _ => ?_)) (by split <;> omega)
      unfold cU uni
      rw [if_neg (by omega), if_neg z, if_pos h2]
      split <;> exact Nat.le_refl _) (fun i _ => by
    unfold cU
    rw [if_neg (by omega), if_neg (by omega), if_neg (by omega), Int.natAbs_mul, sgL_n, Nat.one_mul]
    exact lmZ_b h)
theorem cW_B {d : Nat → Int32} {s m C : Nat} {b : Int32} (hs : s ≤ 4) (h : qL d s m b) : bdA (cW d s m b) (s + 1) C 47239200 := bd_two hs (fun l i hi => by
    unfold cW uni
    split
    · rw [if_neg (by omega)]
      exact tmZ_b h hi
    · split
      · split <;> decide
      · split
        · split <;> decide
        · split <;> decide) (fun l => by
    unfold cW uni
    split
    · rw [if_pos rfl, Int.natAbs_neg]
      exact lmZ_b h
    · split
      · split <;> decide
      · split
        · split <;> decide
        · split <;> decide)
theorem cU_I {d : Nat → Int32} {s m : Nat} {b : Int32} : lpI (cU d s m b) (m + 1) (s + (m + 1)) (stS (cU d s m b) (m + 1) (s + (m + 1))) ∧ unL (s + (m + 1)) (stS (cU d s m b) (m + 1) (s + (m + 1))) := stS_I (fun r i hr hi => by
    unfold cU
    rw [if_neg (by omega), if_neg (by omega), if_pos (by omega), show s + (m + 1) + r - (s + (m + 1)) = r by omega]) (fun r hr => by
    unfold cU sgL
    rw [if_neg (by omega), if_neg (by omega), if_neg (by omega)]
    split <;> omega)
theorem cW_I {d : Nat → Int32} {s m : Nat} {b : Int32} : lpI (cW d s m b) (s + 1) (m + 1 + s) (stS (cW d s m b) (s + 1) (m + 1 + s)) ∧ unL (m + 1 + s) (stS (cW d s m b) (s + 1) (m + 1 + s)) := stS_I (fun r i hr hi => by
    unfold cW
    rw [if_neg (by omega), if_neg (by omega), if_pos (by omega), show m + 1 + s + r - (m + 1 + s) = r by omega]) (fun r hr => by
    unfold cW
    rw [if_neg (by omega), if_neg (by omega), if_neg (by omega)]
    split <;> omega)
/-- where the first phases end -/
theorem cU_end {d : Nat → Int32} {s m : Nat} {b : Int32} (hs : s ≤ 4) (hm : m ≤ 12) : ∃ k, k < 50000 ∧ impS (stI (m + 1) (s + (m + 1)) (m + 1) (stS (cU d s m b) (m + 1) (s + (m + 1))) k) (m + 1) (s + (m + 1)) (m + 1) = none ∧ (∀ j, j < k → impS (stI (m + 1) (s + (m + 1)) (m + 1) (stS (cU d s m b) (m + 1) (s + (m + 1))) j) (m + 1) (s + (m + 1)) (m + 1) ≠ none) ∧ stI (m + 1) (s + (m + 1)) (m + 1) (stS (cU d s m b) (m + 1) (s + (m + 1))) 100000 = stI (m + 1) (s + (m + 1)) (m + 1) (stS (cU d s m b) (m + 1) (s + (m + 1))) k ∧ ∀ c, c < s + (m + 1) → sC (stI (m + 1) (s + (m + 1)) (m + 1) (stS (cU d s m b) (m + 1) (s + (m + 1))) k) c < s + (m + 1) → sT (stI (m + 1) (s + (m + 1)) (m + 1) (stS (cU d s m b) (m + 1) (s + (m + 1))) k) (m + 1) c ≤ 0 :=
  stI_end cU_I.1 cU_I.2 (fun N σ co ro h => by
    have := turns1 (c := sgL d m b) h (fun q i hq hi => by
      have e1 : cU d s m b (s + q) i = if i = q then sgL d m b i else 0 := by
        unfold cU
        rw [if_neg (by omega), if_pos (by omega), show s + q - s = q by omega]
      have e2 : cU d s m b (s + (m + 1) + q) i = uni q i := by
        unfold cU
        rw [if_neg (by omega), if_neg (by omega), if_pos (by omega), show s + (m + 1) + q - (s + (m + 1)) = q by omega]
      rw [e1, e2]
      unfold uni
      by_cases z : i = q
      · rw [if_pos z, if_pos z, z, Int.mul_one]
      · rw [if_neg z, if_neg z, Int.mul_zero]) (by omega) hs
    omega)
theorem cW_end {d : Nat → Int32} {s m : Nat} {b : Int32} (hs : s ≤ 4) (hm : m ≤ 12) : ∃ k, k < 50000 ∧ impS (stI (s + 1) (m + 1 + s) (s + 1) (stS (cW d s m b) (s + 1) (m + 1 + s)) k) (s + 1) (m + 1 + s) (s + 1) = none ∧ (∀ j, j < k → impS (stI (s + 1) (m + 1 + s) (s + 1) (stS (cW d s m b) (s + 1) (m + 1 + s)) j) (s + 1) (m + 1 + s) (s + 1) ≠ none) ∧ stI (s + 1) (m + 1 + s) (s + 1) (stS (cW d s m b) (s + 1) (m + 1 + s)) 100000 = stI (s + 1) (m + 1 + s) (s + 1) (stS (cW d s m b) (s + 1) (m + 1 + s)) k ∧ ∀ c, c < m + 1 + s → sC (stI (s + 1) (m + 1 + s) (s + 1) (stS (cW d s m b) (s + 1) (m + 1 + s)) k) c < m + 1 + s → sT (stI (s + 1) (m + 1 + s) (s + 1) (stS (cW d s m b) (s + 1) (m + 1 + s)) k) (s + 1) c ≤ 0 :=
  stI_end cW_I.1 cW_I.2 (fun N σ co ro h => by
    have := turns2 h (by omega) (by omega)
    omega)
/-- the state behind the first phase -/
def fU (d : Nat → Int32) (s m : Nat) (b : Int32) : lpS := fulS (stS (cU d s m b) (m + 1) (s + (m + 1))) (m + 1) (s + (m + 1))
def fW (d : Nat → Int32) (s m : Nat) (b : Int32) : lpS := fulS (stS (cW d s m b) (s + 1) (m + 1 + s)) (s + 1) (m + 1 + s)
theorem fU_ok {d : Nat → Int32} {s m : Nat} {b : Int32} (hs : s ≤ 4) (hm : m ≤ 12) : lpI (cU d s m b) (m + 1) (s + (m + 1)) (fU d s m b) ∧ (∀ c, c < s + (m + 1) → sC (fU d s m b) c < s + (m + 1) → sT (fU d s m b) (m + 1) c ≤ 0) ∧ (sT (fU d s m b) (m + 1) (s + (m + 1)) = 0 → ph2 (m + 1) (s + (m + 1)) (fU d s m b)) := by
  obtain ⟨k, _, _, _, e, he⟩ := cU_end (d := d) (b := b) hs hm
  have I := (stI_ok (cU_I (d := d) (s := s) (m := m) (b := b)).1 cU_I.2 k).1
  unfold fU fulS
  rw [e]
  exact ⟨lkS_I I, he, fun h0 => ful_2 I he h0⟩
theorem fW_ok {d : Nat → Int32} {s m : Nat} {b : Int32} (hs : s ≤ 4) (hm : m ≤ 12) : lpI (cW d s m b) (s + 1) (m + 1 + s) (fW d s m b) ∧ (∀ c, c < m + 1 + s → sC (fW d s m b) c < m + 1 + s → sT (fW d s m b) (s + 1) c ≤ 0) ∧ (sT (fW d s m b) (s + 1) (m + 1 + s) = 0 → ph2 (s + 1) (m + 1 + s) (fW d s m b)) := by
  obtain ⟨k, _, _, _, e, he⟩ := cW_end (d := d) (b := b) hs hm
  have I := (stI_ok (cW_I (d := d) (s := s) (m := m) (b := b)).1 cW_I.2 k).1
  unfold fW fulS
  rw [e]
  exact ⟨lkS_I I, he, fun h0 => ful_2 I he h0⟩
def yesL (d : Nat → Int32) (s m : Nat) (b : Int32) : Prop := sT (fU d s m b) (m + 1) (s + (m + 1)) = 0
def rowU (d : Nat → Int32) (s m : Nat) (b : Int32) : List Int32 := rowL (mnA (fU d s m b) (m + 1) (s + (m + 1)) s) (m + 1) (s + (m + 1)) s
def rowV (d : Nat → Int32) (s m : Nat) (b : Int32) : List Int32 := rowL (mnA (fW d s m b) (s + 1) (m + 1 + s) (m + 1)) (s + 1) (m + 1 + s) (m + 1)
/-- yes: the row fulfils all -/
theorem rowL_yes {d : Nat → Int32} {s m : Nat} {b : Int32} (hs : s ≤ 4) (hm : m ≤ 12) (h : qL d s m b) (y : yesL d s m b) : unfOK d s m b (rowU d s m b) := by
  obtain ⟨f1, f2, f3⟩ := fU_ok (d := d) (b := b) hs hm
  obtain ⟨i1, i2⟩ := mnA_ok f1 (f3 y) s
  obtain ⟨g, gp, rl, r0, rv⟩ := rowL_v (n := s) i1 (cU_B hs h) (by omega)
  unfold rowU
  generalize mnA (fU d s m b) (m + 1) (s + (m + 1)) s = T at *
  generalize rowL T (m + 1) (s + (m + 1)) s = xs at *
  have L := i1.2.1
  have pos : ∀ z : Int, 0 ≤ g * z → 0 ≤ z := fun z hz => Int.not_lt.mp fun w => by
    have := Int.mul_neg_of_pos_of_neg gp w
    omega
  refine ⟨rl, ?_, fun j hj => pos _ (by rw [rv j hj]; exact vlS_0 i1), fun i hi => ?_⟩
  · refine Int.not_lt.mp fun w => ?_
    have := Int.mul_nonpos_of_nonneg_of_nonpos (show 0 ≤ g by omega) (show (xs.getD 0 0).toInt ≤ 0 by omega)
    omega
  · have eq := vlS_eq i1 i2.1 (show i < m + 1 by omega)
    rw [dsz_split] at eq
    have e1 : dsz s (fun l => vlS T (m + 1) (s + (m + 1)) l * cU d s m b l i) = sgL d m b i * (g * lsL d m i xs s) := by
      unfold lsL
      rw [← dsz_mul, ← dsz_mul]
      refine dsz_congr s (fun l hl => ?_)
      rw [← rv l hl]
      unfold cU
      rw [if_pos hl]
      show g * (xs.getD (l + 1) 0).toInt * (sgL d m b i * tmZ d m i l) = sgL d m b i * (g * (tmZ d m i l * (xs.getD (l + 1) 0).toInt))
      rw [Int.mul_left_comm, Int.mul_assoc, Int.mul_comm (tmZ d m i l)]
    have e2 : dsz (m + 1) (fun q => vlS T (m + 1) (s + (m + 1)) (s + q) * cU d s m b (s + q) i) = sgL d m b i * vlS T (m + 1) (s + (m + 1)) (s + i) := by
      rw [dsz_1 (o := i) (m + 1) (by omega) (fun q hq hn => by
        unfold cU
        rw [if_neg (by omega), if_pos (by omega), if_neg (by omega), Int.mul_zero])]
      unfold cU
      rw [if_neg (by omega), if_pos (by omega), if_pos (by omega), Int.mul_comm]
    have e3 : cU d s m b (s + (m + 1) + (m + 1)) i = sgL d m b i * lmZ d m b i := by
      unfold cU
      rw [if_neg (by omega), if_neg (by omega), if_neg (by omega)]
    rw [e1, e2, e3, ← r0, Int.mul_left_comm (g * (xs.getD 0 0).toInt), ← Int.mul_add] at eq
    have v0 := vlS_0 (l := s + i) i1
    have ss := sgL_s d m b i
    have eq2 : g * lsL d m i xs s + vlS T (m + 1) (s + (m + 1)) (s + i) = g * (xs.getD 0 0).toInt * lmZ d m b i := by
      have := congrArg (fun z => sgL d m b i * z) eq
      simp only [← Int.mul_assoc (sgL d m b i) (sgL d m b i), ss, Int.one_mul] at this
      exact this
    have le : 0 ≤ g * (lmZ d m b i * (xs.getD 0 0).toInt - lsL d m i xs s) := by
      rw [Int.mul_sub, Int.mul_comm (lmZ d m b i), ← Int.mul_assoc]
      omega
    have := pos _ le
    omega
/-- no: weights, and the row of the weights -/
theorem rowL_no {d : Nat → Int32} {s m : Nat} {b : Int32} (hs : s ≤ 4) (hm : m ≤ 12) (h : qL d s m b) (y : ¬ yesL d s m b) : wgtOK d s m b (rowV d s m b) := by
  obtain ⟨f1, f2, f3⟩ := fU_ok (d := d) (b := b) hs hm
  obtain ⟨y1, y2⟩ := lp_end f1 f2
  have T0 := lp_G0 f1
  have tp : 0 < sT (fU d s m b) (m + 1) (s + (m + 1)) := by
    unfold yesL at y
    omega
  generalize hy : yV (cU d s m b) (m + 1) (s + (m + 1)) (fU d s m b) = Y at *
  -- the weights
  have w0 : ∀ q, q < m + 1 → 0 ≤ -(sgL d m b q * Y q) := fun q hq => by
    have := y1 (s + q) (by omega)
    rw [dsz_1 (o := q) (m + 1) hq (fun i hi hn => by
      unfold cU
      rw [if_neg (by omega), if_pos (by omega), if_neg (by omega), Int.mul_zero])] at this
    unfold cU at this
    rw [if_neg (by omega), if_pos (by omega), if_pos (by omega), Int.mul_comm] at this
    omega
  have w1 : ∀ u, u < s → dsz (m + 1) (fun i => -(sgL d m b i * Y i) * tmZ d m i u) = -dsz (m + 1) (fun i => Y i * cU d s m b u i) := fun u hu => by
    rw [← dsz_neg]
    refine dsz_congr _ (fun i _ => ?_)
    show -(sgL d m b i * Y i) * tmZ d m i u = -(Y i * cU d s m b u i)
    unfold cU
    rw [if_pos hu, Int.neg_mul, Int.mul_comm (sgL d m b i), Int.mul_assoc]
  have w2 : dsz (m + 1) (fun i => -(sgL d m b i * Y i) * -lmZ d m b i) = sT (fU d s m b) (m + 1) (s + (m + 1)) := by
    rw [← y2]
    refine dsz_congr _ (fun i _ => ?_)
    show -(sgL d m b i * Y i) * -lmZ d m b i = Y i * cU d s m b (s + (m + 1) + (m + 1)) i
    unfold cU
    rw [if_neg (by omega), if_neg (by omega), if_neg (by omega), Int.neg_mul_neg, Int.mul_comm (sgL d m b i), Int.mul_assoc]
  obtain ⟨g1, g2, g3⟩ := fW_ok (d := d) (b := b) hs hm
  obtain ⟨x, hx⟩ : ∃ x : Nat → Int, x = fun l => if l < m + 1 then -(sgL d m b l * Y l) else dsz (m + 1) (fun i => -(sgL d m b i * Y i) * tmZ d m i (l - (m + 1))) := ⟨_, rfl⟩
  have xa : ∀ l, l < m + 1 → x l = -(sgL d m b l * Y l) := fun l hl => by rw [hx]; exact if_pos hl
  have xb : ∀ u, x (m + 1 + u) = dsz (m + 1) (fun i => -(sgL d m b i * Y i) * tmZ d m i u) := fun u => by
    rw [hx]
    show (if m + 1 + u < m + 1 then _ else dsz (m + 1) (fun i => -(sgL d m b i * Y i) * tmZ d m i (m + 1 + u - (m + 1)))) = _
    rw [if_neg (by omega), show m + 1 + u - (m + 1) = u by omega]
  have z := lp_feas g1 g2 (x := x) tp (fun l hl => by
    by_cases q : l < m + 1
    · rw [xa l q]
      exact w0 l q
    · obtain ⟨u, rfl⟩ : ∃ u, l = m + 1 + u := ⟨l - (m + 1), by omega⟩
      rw [xb u, w1 u (by omega)]
      have := y1 u (by omega)
      omega) (fun i hi => by
    rw [dsz_split]
    have e3 : cW d s m b (m + 1 + s + (s + 1)) i = if i = s then 1 else 0 := by
      unfold cW
      rw [if_neg (by omega), if_neg (by omega), if_neg (by omega)]
    rw [e3]
    by_cases q : i = s
    · rw [if_pos q, Int.mul_one, ← w2, dsz_0 s (fun u hu => by
        unfold cW
        rw [if_neg (by omega), if_pos (by omega), if_neg (by omega), Int.mul_zero]), Int.add_zero]
      refine dsz_congr _ (fun l hl => ?_)
      rw [xa l hl]
      unfold cW
      rw [if_pos hl, if_pos q]
    · rw [if_neg q, Int.mul_zero, dsz_1 (o := i) s (by omega) (fun u hu hn => by
        unfold cW
        rw [if_neg (by omega), if_pos (by omega), if_neg (by omega), Int.mul_zero]), xb i]
      have c1 : cW d s m b (m + 1 + i) i = -1 := by
        unfold cW
        rw [if_neg (by omega), if_pos (by omega), if_pos (by omega)]
      have c2 : dsz (m + 1) (fun l => x l * cW d s m b l i) = dsz (m + 1) (fun i_1 => -(sgL d m b i_1 * Y i_1) * tmZ d m i_1 i) := dsz_congr _ (fun l hl => by
        rw [xa l hl]
        unfold cW
        rw [if_pos hl, if_neg q])
      rw [c1, c2]
      omega)
  obtain ⟨i1, i2⟩ := mnA_ok g1 (g3 z) (m + 1)
  obtain ⟨g, gp, rl, r0, rv⟩ := rowL_v (n := m + 1) i1 (cW_B hs h) (by omega)
  unfold rowV
  generalize mnA (fW d s m b) (s + 1) (m + 1 + s) (m + 1) = T at *
  generalize rowL T (s + 1) (m + 1 + s) (m + 1) = xs at *
  have L := i1.2.1
  have pos : ∀ z : Int, 0 ≤ g * z → 0 ≤ z := fun z hz => Int.not_lt.mp fun w => by
    have := Int.mul_neg_of_pos_of_neg gp w
    omega
  refine ⟨rl, ?_, fun j hj => pos _ (by rw [rv j hj]; exact vlS_0 i1), fun u hu => ?_, ?_⟩
  · refine Int.not_lt.mp fun w => ?_
    have := Int.mul_nonpos_of_nonneg_of_nonpos (show 0 ≤ g by omega) (show (xs.getD 0 0).toInt ≤ 0 by omega)
    omega
  · have eq := vlS_eq i1 i2.1 (show u < s + 1 by omega)
    rw [dsz_split, dsz_1 (o := u) s hu (fun q hq hn => by
      unfold cW
      rw [if_neg (by omega), if_pos (by omega), if_neg (by omega), Int.mul_zero])] at eq
    have c1 : cW d s m b (m + 1 + u) u = -1 := by
      unfold cW
      rw [if_neg (by omega), if_pos (by omega), if_pos (by omega)]
    have c3 : cW d s m b (m + 1 + s + (s + 1)) u = 0 := by
      unfold cW
      rw [if_neg (by omega), if_neg (by omega), if_neg (by omega), if_neg (by omega)]
    have c2 : dsz (m + 1) (fun l => vlS T (s + 1) (m + 1 + s) l * cW d s m b l u) = g * dsz (m + 1) (fun i => tmZ d m i u * (xs.getD (i + 1) 0).toInt) := by
      rw [← dsz_mul]
      refine dsz_congr _ (fun l hl => ?_)
      rw [← rv l hl]
      unfold cW
      rw [if_pos hl, if_neg (by omega), Int.mul_assoc, Int.mul_comm (tmZ d m l u)]
    rw [c1, c2, c3, Int.mul_zero] at eq
    have v0 := vlS_0 (l := m + 1 + u) i1
    exact pos _ (by omega)
  · have eq := vlS_eq i1 i2.1 (show s < s + 1 by omega)
    rw [dsz_split, dsz_0 s (fun q hq => by
      unfold cW
      rw [if_neg (by omega), if_pos (by omega), if_neg (by omega), Int.mul_zero]), Int.add_zero] at eq
    have c3 : cW d s m b (m + 1 + s + (s + 1)) s = 1 := by
      unfold cW
      rw [if_neg (by omega), if_neg (by omega), if_neg (by omega), if_pos rfl]
    have c2 : dsz (m + 1) (fun l => vlS T (s + 1) (m + 1 + s) l * cW d s m b l s) = g * -dsz (m + 1) (fun i => lmZ d m b i * (xs.getD (i + 1) 0).toInt) := by
      rw [← dsz_neg, ← dsz_mul]
      refine dsz_congr _ (fun l hl => ?_)
      rw [← rv l hl]
      unfold cW
      rw [if_pos hl, if_pos rfl, Int.mul_assoc, Int.mul_neg, Int.mul_comm (lmZ d m b l)]
    rw [c2, c3, Int.mul_one, ← r0] at eq
    have := Int.eq_of_mul_eq_mul_left (show g ≠ 0 by omega) eq
    omega
end
