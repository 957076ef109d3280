/-! THE PURE PART, inequalities: how large a table's numbers are; where the sum ends. -/
section
/-- determinants of columns of the first table -/
def bdA (a : Nat → Nat → Int) (R C B : Nat) : Prop := ∀ f : Nat → Nat, (∀ j, j < R → f j ≤ C + R) → (∀ i j, i < R → j < R → f i = f j → i = j) → (det R (fun j => a (f j))).natAbs ≤ B
theorem lp_L {a : Nat → Nat → Int} {R C B : Nat} {S : lpS} (h : lpI a R C S) (hb : bdA a R C B) : (sL S).natAbs ≤ B := by
  rw [h.1.1]
  exact hb (sR S) (fun j hj => Nat.le_of_lt (h.2.2.2.1.1 j hj)) (fun i j hi hj e => h.2.2.2.1.2.2.1 i j hi hj e)
theorem lp_T {a : Nat → Nat → Int} {R C B : Nat} {S : lpS} (h : lpI a R C S) (hb : bdA a R C B) {r c : Nat} (hr : r < R) (hc : c ≤ C) : (sT S r c).natAbs ≤ B := by
  obtain ⟨l1, l2, l3, l4, l5, l6, l7⟩ := h.2.2.2.1
  have e : sT S r c = det R (fun j => a (if j = r then sC S c else sR S j)) := by
    rw [h.1.2.1 r c hr hc]
    refine det_c R (fun j i _ _ => ?_)
    unfold upC
    by_cases e : j = r
    · rw [if_pos e, if_pos e]
    · rw [if_neg e, if_neg e]
  have le : sC S c ≤ C + R := by
    by_cases z : c = C
    · rw [z, l6]
      exact Nat.le_refl _
    · exact Nat.le_of_lt (l2 c (by omega))
  have ne : ∀ j, j < R → sR S j ≠ sC S c := fun j hj => by
    by_cases z : c = C
    · rw [z, l6]
      have := l1 j hj
      omega
    · exact l5 j c hj (by omega)
  rw [e]
  refine hb (fun j => if j = r then sC S c else sR S j) (fun j hj => ?_) (fun i j hi hj q => ?_)
  · show (if j = r then sC S c else sR S j) ≤ C + R
    split
    · exact le
    · exact Nat.le_of_lt (l1 j hj)
  · have q : (if i = r then sC S c else sR S i) = if j = r then sC S c else sR S j := q
    by_cases z1 : i = r
    · by_cases z2 : j = r
      · rw [z1, z2]
      · rw [if_pos z1, if_neg z2] at q
        exact absurd q.symm (ne j hj)
    · by_cases z2 : j = r
      · rw [if_neg z1, if_pos z2] at q
        exact absurd q (ne i hi)
      · rw [if_neg z1, if_neg z2] at q
        exact l3 i j hi hj q
theorem dsz_B {f : Nat → Int} {B : Nat} : ∀ n, (∀ i, i < n → (f i).natAbs ≤ B) → (dsz n f).natAbs ≤ n * B
  | 0, _ => Nat.zero_le _
  | n + 1, h => by
    have h1 := dsz_B n (fun i hi => h i (by omega))
    have h2 := h n (by omega)
    rw [dsz, Nat.succ_mul]
    exact Nat.le_trans (Int.natAbs_add_le _ _) (by omega)
theorem lp_G {a : Nat → Nat → Int} {R C B : Nat} {S : lpS} (h : lpI a R C S) (hb : bdA a R C B) {c : Nat} (hc : c ≤ C) : (sT S R c).natAbs ≤ R * B + B := by
  obtain ⟨g1, g2⟩ := h.2.2.2.2.1
  have s1 : (gSm S R C c).natAbs ≤ R * B := dsz_B R (fun r hr => by
    show (if C ≤ sR S r then sT S r c else 0).natAbs ≤ B
    split
    · exact lp_T h hb hr hc
    · exact Nat.zero_le _)
  have s2 := lp_L h hb
  by_cases z : c = C
  · rw [z] at s1 ⊢
    rw [g2]
    omega
  · rw [g1 c (by omega)]
    split <;> omega
theorem kNu_n {U : Nat → Bool} : ∀ n, kNu U n = cnt (fun j => !U j) n
  | 0 => rfl
  | n + 1 => by
    rw [kNu, kNu_n n]
    show _ = cnt (fun j => !U j) n + (if (!U n) = true then 1 else 0)
    cases U n <;> rfl
theorem fct_m {n m : Nat} (h : n ≤ m) : fct n ≤ fct m := by
  obtain ⟨d, rfl⟩ : ∃ d, m = n + d := ⟨m - n, by omega⟩
  clear h
  induction d with
  | zero => exact Nat.le_refl _
  | succ d ih =>
    show fct n ≤ (n + d + 1) * fct (n + d)
    exact Nat.le_trans ih (Nat.le_mul_of_pos_left _ (by omega))
/-- two kinds of columns that are not unit ones -/
theorem PRu_n {U X Y : Nat → Bool} {E : Nat → Nat} {A B : Nat} : ∀ n, (∀ j, j < n → U j = true ∨ (U j = false ∧ X j = true ∧ E j = A) ∨ (U j = false ∧ Y j = true ∧ X j = false ∧ E j = B)) → (∀ j, j < n → U j = true → X j = false ∧ Y j = false) → (∀ j, j < n → X j = true → Y j = false) → PRu U E n = A ^ cnt X n * B ^ cnt Y n
  | 0, _, _, _ => rfl
  | n + 1, h, h2, h3 => by
    rw [PRu, PRu_n n (fun j hj => h j (by omega)) (fun j hj => h2 j (by omega)) (fun j hj => h3 j (by omega))]
    show _ = A ^ (cnt X n + (if X n = true then 1 else 0)) * B ^ (cnt Y n + (if Y n = true then 1 else 0))
    rcases h n (by omega) with q | ⟨q1, q2, q3⟩ | ⟨q1, q2, q3, q4⟩
    · obtain ⟨x, y⟩ := h2 n (by omega) q
      rw [if_pos q, x, y]
      simp
    · rw [q1, q2, h3 n (by omega) q2, q3]
      simp [Nat.pow_succ]
      rw [Nat.mul_right_comm]
    · rw [q1, q2, q3, q4]
      simp [Nat.pow_succ]
      rw [Nat.mul_assoc]
/-- the first table of the unknowns -/
theorem bd_one {a : Nat → Nat → Int} {R s : Nat} (hs : s ≤ 4) (h1 : ∀ u i, u < s → i < R → (a u i).natAbs ≤ 9) (h2 : ∀ l, s ≤ l → l < s + R + R → uSm (a l) R ≤ 1) (h3 : ∀ i, i < R → (a (s + R + R) i).natAbs ≤ 60) : bdA a R (s + R) 47239200 := fun f hf hj => by
  have key := det_le R (M := fun j => a (f j)) (U := fun j => decide (s ≤ f j) && decide (f j < s + R + R)) (E := fun j => if f j < s then 9 else 60) (fun j hj' hu => by
    have hu : (decide (s ≤ f j) && decide (f j < s + R + R)) = true := hu
    rw [Bool.and_eq_true, decide_eq_true_iff, decide_eq_true_iff] at hu
    exact h2 (f j) hu.1 hu.2) (fun j i hj' hi hu => by
    have hu : ¬ (decide (s ≤ f j) && decide (f j < s + R + R)) = true := hu
    rw [Bool.and_eq_true, decide_eq_true_iff, decide_eq_true_iff] at hu
    show (a (f j) i).natAbs ≤ if f j < s then 9 else 60
    have le := hf j hj'
    by_cases z : f j < s
    · rw [if_pos z]
      exact h1 (f j) i z hi
    · rw [if_neg z, show f j = s + R + R by omega]
      exact h3 i hi)
  have pr := PRu_n (U := fun j => decide (s ≤ f j) && decide (f j < s + R + R)) (X := fun j => decide (f j < s)) (Y := fun j => decide (f j = s + R + R)) (E := fun j => if f j < s then 9 else 60) (A := 9) (B := 60) R (fun j hj' => by
    have le := hf j hj'
    by_cases z : f j < s
    · exact Or.inr (Or.inl ⟨by rw [decide_eq_false (by omega)]; rfl, decide_eq_true z, if_pos z⟩)
    · by_cases y : f j = s + R + R
      · exact Or.inr (Or.inr ⟨by rw [decide_eq_false (p := f j < s + R + R) (by omega), Bool.and_false], decide_eq_true y, decide_eq_false z, if_neg z⟩)
      · exact Or.inl (by rw [decide_eq_true (p := f j < s + R + R) (by omega), decide_eq_true (by omega)]; rfl)) (fun j hj' hu => by
    have hu : (decide (s ≤ f j) && decide (f j < s + R + R)) = true := hu
    rw [Bool.and_eq_true, decide_eq_true_iff, decide_eq_true_iff] at hu
    exact ⟨decide_eq_false (by omega), decide_eq_false (by omega)⟩) (fun j hj' hx => by
    have := of_decide_eq_true hx
    exact decide_eq_false (by omega))
  have c1 : cnt (fun j => decide (f j < s)) R ≤ s := by
    have := cnt_inj (X := fun j => decide (f j < s)) (f := f) (m := s) R (Y := fun _ => true) (fun i _ z => ⟨of_decide_eq_true z, rfl⟩) (fun i j hi hj' _ _ e => hj i j hi hj' e)
    rw [cnt_T] at this
    exact this
  have c2 : cnt (fun j => decide (f j = s + R + R)) R ≤ 1 := by
    have := cnt_inj (X := fun j => decide (f j = s + R + R)) (f := fun _ => 0) (m := 1) R (Y := fun _ => true) (fun i _ z => ⟨by omega, rfl⟩) (fun i j hi hj' z1 z2 _ => hj i j hi hj' (by rw [of_decide_eq_true z1, of_decide_eq_true z2]))
    rw [cnt_T] at this
    exact this
  have c3 : kNu (fun j => decide (s ≤ f j) && decide (f j < s + R + R)) R ≤ 5 := by
    rw [kNu_n]
    have := cnt_inj (X := fun j => !(decide (s ≤ f j) && decide (f j < s + R + R))) (f := fun j => if f j < s then f j else s) (m := s + 1) R (Y := fun _ => true) (fun i _ z => ⟨by split <;> omega, rfl⟩) (fun i j hi hj' z1 z2 e => by
      have e : (if f i < s then f i else s) = if f j < s then f j else s := e
      have b1 := hf i hi
      have b2 := hf j hj'
      have z1 : (!(decide (s ≤ f i) && decide (f i < s + R + R))) = true := z1
      have z2 : (!(decide (s ≤ f j) && decide (f j < s + R + R))) = true := z2
      rw [Bool.not_eq_true', Bool.and_eq_false_iff, decide_eq_false_iff_not, decide_eq_false_iff_not] at z1 z2
      refine hj i j hi hj' ?_
      by_cases y1 : f i < s
      · by_cases y2 : f j < s
        · rw [if_pos y1, if_pos y2] at e
          exact e
        · rw [if_pos y1, if_neg y2] at e
          omega
      · by_cases y2 : f j < s
        · rw [if_neg y1, if_pos y2] at e
          omega
        · omega)
    rw [cnt_T] at this
    omega
  rw [pr] at key
  have f5 := fct_m c3
  have p1 := Nat.pow_le_pow_right (n := 9) (by decide) (Nat.le_trans c1 hs)
  have p2 := Nat.pow_le_pow_right (n := 60) (by decide) c2
  have m1 := Nat.mul_le_mul p1 p2
  have m2 := Nat.mul_le_mul f5 m1
  have v : fct 5 * (9 ^ 4 * 60 ^ 1) = 47239200 := by decide
  rw [v] at m2
  exact Nat.le_trans key m2
theorem prR_n {A B : Nat} : ∀ n, prR (fun i => if i = n then B else A) (n + 1) = A ^ n * B
  | 0 => by
    show (if 0 = 0 then B else A) * 1 = _
    rw [if_pos rfl, Nat.mul_one, Nat.pow_zero, Nat.one_mul]
  | n + 1 => by
    rw [prR]
    have e : (fun i => (fun i => if i = n + 1 then B else A) (i + 1)) = fun i => if i = n then B else A := by
      funext i
      show (if i + 1 = n + 1 then B else A) = _
      by_cases z : i = n
      · rw [if_pos (by omega), if_pos z]
      · rw [if_neg (by omega), if_neg z]
    rw [e, prR_n n]
    show (if 0 = n + 1 then B else A) * (A ^ n * B) = _
    rw [if_neg (by omega), Nat.pow_succ, ← Nat.mul_assoc, Nat.mul_comm A]
/-- the first table of the weights -/
theorem bd_two {a : Nat → Nat → Int} {C s : Nat} (hs : s ≤ 4) (h1 : ∀ l i, i < s → (a l i).natAbs ≤ 9) (h2 : ∀ l, (a l s).natAbs ≤ 60) : bdA a (s + 1) C 47239200 := fun f _ _ => by
  have key := det_leR (s + 1) (M := fun j => a (f j)) (E := fun i => if i = s then 60 else 9) (fun j i _ hi => by
    show (a (f j) i).natAbs ≤ if i = s then 60 else 9
    by_cases z : i = s
    · rw [if_pos z, z]
      exact h2 _
    · rw [if_neg z]
      exact h1 _ _ (by omega))
  rw [prR_n] at key
  have f5 := fct_m (show s + 1 ≤ 5 by omega)
  have p1 := Nat.pow_le_pow_right (n := 9) (by decide) hs
  have m1 := Nat.mul_le_mul p1 (Nat.le_refl 60)
  have m2 := Nat.mul_le_mul f5 m1
  have v : fct 5 * (9 ^ 4 * 60) = 47239200 := by decide
  rw [v] at m2
  exact Nat.le_trans key m2
/-- what a base asks of a column, the artificial ones together -/
def uni (i j : Nat) : Int := if j = i then 1 else 0
def yV (a : Nat → Nat → Int) (R C : Nat) (S : lpS) (i : Nat) : Int := dsz R (fun k => if C ≤ sR S k then det R (upC (fun j => a (sR S j)) k (uni i)) else 0)
def dV (a : Nat → Nat → Int) (R C : Nat) (S : lpS) (l : Nat) : Int := dsz R (fun k => if C ≤ sR S k then D2 a R S k l else 0)
theorem D_one {a : Nat → Nat → Int} {R k l : Nat} {S : lpS} (hk : k < R) : D2 a R S k l = dsz R (fun i => a l i * det R (upC (fun j => a (sR S j)) k (uni i))) := by
  rw [← det_sum hk (c := a l) (W := uni)]
  refine det_c R (fun j i hj hi => ?_)
  unfold upC
  by_cases z : j = k
  · rw [if_pos z, if_pos z]
    show a l i = dsz R (fun q => a l q * uni q i)
    rw [dsz_1 (o := i) R hi (fun q hq hn => by
      show a l q * (if i = q then 1 else 0) = 0
      rw [if_neg (fun y => hn y.symm), Int.mul_zero])]
    show a l i = a l i * (if i = i then 1 else 0)
    rw [if_pos rfl, Int.mul_one]
  · rw [if_neg z, if_neg z]
theorem D_lin {a : Nat → Nat → Int} {R C l : Nat} {S : lpS} : dV a R C S l = dsz R (fun i => yV a R C S i * a l i) := by
  have e1 : dV a R C S l = dsz R (fun k => dsz R (fun i => a l i * (if C ≤ sR S k then det R (upC (fun j => a (sR S j)) k (uni i)) else 0))) := dsz_congr R (fun k hk => by
    show (if C ≤ sR S k then D2 a R S k l else 0) = _
    by_cases z : C ≤ sR S k
    · rw [if_pos z, D_one hk]
      exact dsz_congr R (fun i _ => by rw [if_pos z])
    · rw [if_neg z, dsz_0 R (fun i _ => by rw [if_neg z, Int.mul_zero])])
  rw [e1, dsz_swap]
  refine dsz_congr R (fun i _ => ?_)
  show dsz R (fun k => a l i * (if C ≤ sR S k then det R (upC (fun j => a (sR S j)) k (uni i)) else 0)) = _
  rw [dsz_mul, Int.mul_comm]
  rfl
/-- a column that is out of the base: what stands in the row of the sum -/
theorem D_out {a : Nat → Nat → Int} {R C c : Nat} {S : lpS} (h : lpI a R C S) (hc : c ≤ C) : dV a R C S (sC S c) = gSm S R C c := dsz_congr R (fun k hk => by
  show (if C ≤ sR S k then D2 a R S k (sC S c) else 0) = if C ≤ sR S k then sT S k c else 0
  rw [h.1.2.1 k c hk hc]
  rfl)
theorem D_in {a : Nat → Nat → Int} {R C r : Nat} {S : lpS} (h : lpI a R C S) (hr : r < R) (hl : sR S r < C) : dV a R C S (sR S r) = 0 := dsz_0 R (fun k hk => by
  show (if C ≤ sR S k then D2 a R S k (sR S r) else 0) = 0
  rw [D2_in h hk hr]
  by_cases z : k = r
  · rw [z, if_neg (show ¬ C ≤ sR S r by omega)]
  · rw [if_neg z]
    split <;> rfl)
/-- no column lessens the sum: multipliers -/
theorem lp_end {a : Nat → Nat → Int} {R C : Nat} {S : lpS} (h : lpI a R C S) (he : ∀ c, c < C → sC S c < C → sT S R c ≤ 0) : (∀ l, l < C → dsz R (fun i => yV a R C S i * a l i) ≤ 0) ∧ dsz R (fun i => yV a R C S i * a (C + R) i) = sT S R C := by
  obtain ⟨l1, l2, l3, l4, l5, l6, l7⟩ := h.2.2.2.1
  obtain ⟨g1, g2⟩ := h.2.2.2.2.1
  refine ⟨fun l hl => ?_, ?_⟩
  · rw [← D_lin]
    rcases l7 l (by omega) with ⟨r, hr, e⟩ | ⟨c, hc, e⟩
    · rw [← e, D_in h hr (by omega)]
      exact Int.le_refl _
    · have := he c hc (by omega)
      rw [g1 c hc, if_neg (by omega)] at this
      rw [← e, D_out h (by omega)]
      omega
  · rw [← D_lin, ← l6, D_out h (Nat.le_refl _), g2]
theorem dsz_le0 {f : Nat → Int} : ∀ n, (∀ i, i < n → f i ≤ 0) → dsz n f ≤ 0
  | 0, _ => Int.le_refl _
  | n + 1, h => by
    have h1 := dsz_le0 n (fun i hi => h i (by omega))
    have h2 := h n (by omega)
    rw [dsz]
    omega
theorem lp_G0 {a : Nat → Nat → Int} {R C : Nat} {S : lpS} (h : lpI a R C S) : 0 ≤ sT S R C := by
  rw [h.2.2.2.2.1.2]
  have := dsz_le0 (f := fun r => -(if C ≤ sR S r then sT S r C else 0)) R (fun r hr => by
    have := h.2.2.1 r hr
    show -(if C ≤ sR S r then sT S r C else 0) ≤ 0
    split <;> omega)
  rw [dsz_neg] at this
  show 0 ≤ dsz R (fun r => if C ≤ sR S r then sT S r C else 0)
  omega
/-- there are numbers: the sum ends at 0 -/
theorem lp_feas {a : Nat → Nat → Int} {R C : Nat} {S : lpS} (h : lpI a R C S) (he : ∀ c, c < C → sC S c < C → sT S R c ≤ 0) {x : Nat → Int} {t : Int} (ht : 0 < t) (hx : ∀ l, l < C → 0 ≤ x l) (hs : ∀ i, i < R → dsz C (fun l => x l * a l i) = t * a (C + R) i) : sT S R C = 0 := by
  obtain ⟨y1, y2⟩ := lp_end h he
  have e : t * sT S R C = dsz C (fun l => x l * dsz R (fun i => yV a R C S i * a l i)) := by
    rw [← y2, ← dsz_mul]
    have e1 : dsz C (fun l => x l * dsz R (fun i => yV a R C S i * a l i)) = dsz C (fun l => dsz R (fun i => yV a R C S i * (x l * a l i))) := dsz_congr C (fun l _ => by
      rw [← dsz_mul]
      exact dsz_congr R (fun i _ => by
        rw [← Int.mul_assoc, Int.mul_comm (x l), Int.mul_assoc]))
    rw [e1, dsz_swap]
    refine dsz_congr R (fun i hi => ?_)
    show t * (yV a R C S i * a (C + R) i) = dsz C (fun l => yV a R C S i * (x l * a l i))
    rw [dsz_mul, hs i hi, ← Int.mul_assoc, Int.mul_comm t, Int.mul_assoc]
  have le : dsz C (fun l => x l * dsz R (fun i => yV a R C S i * a l i)) ≤ 0 := dsz_le0 C (fun l hl => Int.mul_nonpos_of_nonneg_of_nonpos (hx l hl) (y1 l hl))
  have g := lp_G0 h
  rcases Int.lt_or_le 0 (sT S R C) with z | z
  · have := Int.mul_pos ht z
    omega
  · omega
end
