/-! THE PURE PART, inequalities: determinants of whole numbers, by columns. -/
section
def sgj (j : Nat) : Int := if j % 2 = 0 then 1 else -1
theorem sgj_s (j : Nat) : sgj (j + 1) = -sgj j := by
  unfold sgj
  by_cases h : j % 2 = 0
  · rw [if_pos h, if_neg (by omega)]
  · rw [if_neg h, if_pos (by omega)]
    rfl
theorem sgj_n (j : Nat) : (sgj j).natAbs = 1 := by
  unfold sgj
  by_cases h : j % 2 = 0
  · rw [if_pos h]; rfl
  · rw [if_neg h]; rfl
def skp (j k : Nat) : Nat := if k < j then k else k + 1
/-- without the column j and the row 0 -/
def mnM (M : Nat → Nat → Int) (j k i : Nat) : Int := M (skp j k) (i + 1)
def det : Nat → (Nat → Nat → Int) → Int
  | 0, _ => 1
  | n + 1, M => dsz (n + 1) (fun j => sgj j * M j 0 * det n (mnM M j))
theorem det_c : ∀ n {M N : Nat → Nat → Int}, (∀ j i, j < n → i < n → M j i = N j i) → det n M = det n N
  | 0, _, _, _ => rfl
  | n + 1, M, N, h => by
    rw [det, det]
    refine dsz_congr (n + 1) (fun j hj => ?_)
    rw [h j 0 hj (by omega), det_c n (M := mnM M j) (N := mnM N j) (fun k i hk hi => by
      unfold mnM skp
      by_cases e : k < j
      · rw [if_pos e]
        exact h k (i + 1) (by omega) (by omega)
      · rw [if_neg e]
        exact h (k + 1) (i + 1) (by omega) (by omega))]
/-- a column is put in place of another one -/
def upC (M : Nat → Nat → Int) (k : Nat) (u : Nat → Int) (j i : Nat) : Int := if j = k then u i else M j i
theorem dsz_add {f g : Nat → Int} : ∀ n, dsz n (fun i => f i + g i) = dsz n f + dsz n g
  | 0 => rfl
  | n + 1 => by
    rw [dsz, dsz, dsz, dsz_add n]
    omega
theorem dsz_mul {f : Nat → Int} {c : Int} : ∀ n, dsz n (fun i => c * f i) = c * dsz n f
  | 0 => by rw [dsz, dsz, Int.mul_zero]
  | n + 1 => by
    rw [dsz, dsz, dsz_mul n, Int.mul_add]
theorem det_lin : ∀ n {M : Nat → Nat → Int} {k : Nat} {u v : Nat → Int} {x y : Int}, k < n → det n (upC M k (fun i => x * u i + y * v i)) = x * det n (upC M k u) + y * det n (upC M k v)
  | 0, _, _, _, _, _, _, h => absurd h (Nat.not_lt_zero _)
  | n + 1, M, k, u, v, x, y, h => by
    rw [det, det, det, ← dsz_mul, ← dsz_mul, ← dsz_add]
    refine dsz_congr (n + 1) (fun j hj => ?_)
    by_cases e : j = k
    · subst e
      have s : ∀ w : Nat → Int, det n (mnM (upC M j w) j) = det n (mnM M j) := fun w => det_c n (fun l i _ _ => by
        unfold mnM upC skp
        by_cases f : l < j
        · rw [if_pos f, if_neg (by omega)]
        · rw [if_neg f, if_neg (by omega)])
      rw [s, s, s]
      unfold upC
      rw [if_pos rfl, if_pos rfl, if_pos rfl]
      grind
    · obtain ⟨k', hk', e2⟩ : ∃ k', k' < n ∧ ∀ (w : Nat → Int) (l i : Nat), mnM (upC M k w) j l i = upC (mnM M j) k' (fun i => w (i + 1)) l i := by
        have fin : ∀ k', (∀ l, skp j l = k ↔ l = k') → ∀ (w : Nat → Int) (l i : Nat), mnM (upC M k w) j l i = upC (mnM M j) k' (fun i => w (i + 1)) l i := fun k' h w l i => by
          show (if skp j l = k then w (i + 1) else M (skp j l) (i + 1)) = (if l = k' then w (i + 1) else M (skp j l) (i + 1))
          by_cases q : l = k'
          · rw [if_pos q, if_pos ((h l).mpr q)]
          · rw [if_neg q, if_neg (fun y => q ((h l).mp y))]
        by_cases f : k < j
        · refine ⟨k, by omega, fin k (fun l => ?_)⟩
          unfold skp
          by_cases g : l < j
          · rw [if_pos g]
          · rw [if_neg g]
            omega
        · refine ⟨k - 1, by omega, fin (k - 1) (fun l => ?_)⟩
          unfold skp
          by_cases g : l < j
          · rw [if_pos g]
            omega
          · rw [if_neg g]
            omega
      have s : ∀ w : Nat → Int, det n (mnM (upC M k w) j) = det n (upC (mnM M j) k' (fun i => w (i + 1))) := fun w => det_c n (fun l i _ _ => e2 w l i)
      have t : ∀ w : Nat → Int, upC M k w j 0 = M j 0 := fun w => if_neg e
      rw [s, s, s, t, t, t, det_lin n hk']
      generalize det n (upC (mnM M j) k' (fun i => u (i + 1))) = a
      generalize det n (upC (mnM M j) k' (fun i => v (i + 1))) = b
      grind
theorem dsz_2 {f : Nat → Int} {k : Nat} : ∀ n, k + 1 < n → (∀ i, i < n → i ≠ k → i ≠ k + 1 → f i = 0) → dsz n f = f k + f (k + 1)
  | 0, h, _ => by omega
  | n + 1, h, z => by
    rw [dsz]
    by_cases e : k + 1 = n
    · subst e
      rw [dsz_1 (o := k) (k + 1) (by omega) (fun i hi hn => z i (by omega) hn (by omega))]
    · rw [dsz_2 n (by omega) (fun i hi => z i (by omega)), z n (by omega) (by omega) (by omega), Int.add_zero]
/-- two columns side by side are the same -/
theorem det_adj : ∀ n {M : Nat → Nat → Int} {k : Nat}, k + 1 < n → (∀ i, M k i = M (k + 1) i) → det n M = 0
  | 0, _, _, h, _ => by omega
  | n + 1, M, k, h, e => by
    rw [det, dsz_2 (k := k) (n + 1) h (fun j hj h1 h2 => ?_), e 0, sgj_s, det_c n (M := mnM M (k + 1)) (N := mnM M k) (fun l i _ _ => ?_)]
    · generalize det n (mnM M k) = a
      grind
    · unfold mnM skp
      by_cases f : l < k
      · rw [if_pos (by omega), if_pos f]
      · rw [if_neg f]
        by_cases g : l < k + 1
        · rw [if_pos g, show l = k by omega, e]
        · rw [if_neg g]
    · have : det n (mnM M j) = 0 := by
        by_cases f : j < k
        · refine det_adj n (k := k - 1) (by omega) (fun i => ?_)
          unfold mnM skp
          rw [if_neg (by omega), if_neg (by omega), show k - 1 + 1 = k by omega]
          exact e _
        · refine det_adj n (k := k) (by omega) (fun i => ?_)
          unfold mnM skp
          rw [if_pos (by omega), if_pos (by omega)]
          exact e _
      rw [this, Int.mul_zero]
def swC (M : Nat → Nat → Int) (k j i : Nat) : Int := if j = k then M (k + 1) i else if j = k + 1 then M k i else M j i
theorem det_sw {n : Nat} {M : Nat → Nat → Int} {k : Nat} (h : k + 1 < n) : det n (swC M k) = -det n M := by
  -- both columns the sum of both
  have z : ∀ u v : Nat → Int, det n (upC (upC M k u) (k + 1) v) = -det n (upC (upC M k v) (k + 1) u) := fun u v => by
    have a := det_lin n (M := upC M k (fun i => 1 * u i + 1 * v i)) (k := k + 1) (u := u) (v := v) (x := 1) (y := 1) h
    have c : ∀ (p q : Nat → Int), det n (upC (upC M k p) (k + 1) q) = det n (upC (upC M (k + 1) q) k p) := fun p q => det_c n (fun j i _ _ => by
      unfold upC
      by_cases e : j = k
      · rw [if_neg (by omega), if_pos e, if_pos e]
      · by_cases f : j = k + 1
        · rw [if_pos f, if_neg e, if_pos f]
        · rw [if_neg f, if_neg e, if_neg e, if_neg f])
    have d : ∀ q : Nat → Int, det n (upC (upC M k (fun i => 1 * u i + 1 * v i)) (k + 1) q) = 1 * det n (upC (upC M k u) (k + 1) q) + 1 * det n (upC (upC M k v) (k + 1) q) := fun q => by
      rw [c, c, c]
      exact det_lin n (by omega)
    have s : ∀ q : Nat → Int, det n (upC (upC M k q) (k + 1) q) = 0 := fun q => det_adj n h (fun i => by
      unfold upC
      rw [if_neg (by omega), if_pos rfl, if_pos rfl])
    rw [s, d, d, s, s] at a
    omega
  have e1 : det n (swC M k) = det n (upC (upC M k (M (k + 1))) (k + 1) (M k)) := det_c n (fun j i _ _ => by
    unfold swC upC
    by_cases e : j = k
    · rw [if_pos e, if_neg (by omega), if_pos e]
    · rw [if_neg e]
      by_cases f : j = k + 1
      · rw [if_pos f, if_pos f]
      · rw [if_neg f, if_neg f, if_neg e])
  have e2 : det n M = det n (upC (upC M k (M k)) (k + 1) (M (k + 1))) := det_c n (fun j i _ _ => by
    unfold upC
    by_cases f : j = k + 1
    · rw [if_pos f, f]
    · rw [if_neg f]
      by_cases e : j = k
      · rw [if_pos e, e]
      · rw [if_neg e])
  rw [e1, e2, z]
/-- two columns are the same -/
theorem det_alt {n : Nat} : ∀ d {M : Nat → Nat → Int} {a : Nat}, a + d + 1 < n → (∀ i, M a i = M (a + d + 1) i) → det n M = 0
  | 0, M, a, h, e => det_adj n h e
  | d + 1, M, a, h, e => by
    have s := det_sw (M := M) (k := a + d + 1) (n := n) (by omega)
    have z := det_alt (n := n) d (M := swC M (a + d + 1)) (a := a) (by omega) (fun i => by
      unfold swC
      rw [if_neg (by omega), if_neg (by omega), if_pos rfl]
      exact e i)
    omega
theorem det_eq {n : Nat} {M : Nat → Nat → Int} {a b : Nat} (ha : a < n) (hb : b < n) (hn : a ≠ b) (e : ∀ i, i < n → M a i = M b i) : det n M = 0 := by
  have main : ∀ a b, a < b → b < n → (∀ i, i < n → M a i = M b i) → det n M = 0 := fun a b h hb e => by
    have c := det_c n (M := M) (N := upC M a (M b)) (fun j i _ hi => by
      unfold upC
      by_cases f : j = a
      · rw [if_pos f, f, e i hi]
      · rw [if_neg f])
    rw [c]
    obtain ⟨d, rfl⟩ : ∃ d, b = a + d + 1 := ⟨b - a - 1, by omega⟩
    refine det_alt d (a := a) hb (fun i => ?_)
    unfold upC
    rw [if_pos rfl, if_neg (by omega)]
  rcases Nat.lt_or_lt_of_ne hn with h | h
  · exact main a b h hb e
  · exact main b a h ha (fun i hi => (e i hi).symm)
theorem det_z {n : Nat} {M : Nat → Nat → Int} {k : Nat} (hk : k < n) (h : ∀ i, i < n → M k i = 0) : det n M = 0 := by
  have a := det_lin n (M := M) (k := k) (u := M k) (v := M k) (x := 0) (y := 0) hk
  rw [Int.zero_mul, Int.add_zero] at a
  rw [← a]
  exact det_c n (fun j i _ hi => by
    show M j i = if j = k then 0 * M k i + 0 * M k i else M j i
    by_cases e : j = k
    · rw [if_pos e, e, h i hi]
      omega
    · rw [if_neg e])
theorem det_one : ∀ n {M : Nat → Nat → Int}, (∀ j i, j < n → i < n → M j i = if j = i then 1 else 0) → det n M = 1
  | 0, _, _ => rfl
  | n + 1, M, h => by
    rw [det, dsz_1 (o := 0) (n + 1) (by omega) (fun j hj hn => by rw [h j 0 hj (by omega), if_neg hn, Int.mul_zero, Int.zero_mul]), h 0 0 (by omega) (by omega), if_pos rfl, det_one n (fun j i hj hi => ?_)]
    · rfl
    · unfold mnM skp
      rw [if_neg (by omega), h (j + 1) (i + 1) (by omega) (by omega)]
      by_cases e : j = i
      · rw [if_pos e, if_pos (by omega)]
      · rw [if_neg e, if_neg (by omega)]
/-- a column is a sum of columns -/
theorem det_sum {n : Nat} {M : Nat → Nat → Int} {k : Nat} (hk : k < n) {c : Nat → Int} {W : Nat → Nat → Int} : ∀ m, det n (upC M k (fun i => dsz m (fun l => c l * W l i))) = dsz m (fun l => c l * det n (upC M k (W l)))
  | 0 => det_z hk (fun i _ => by
    unfold upC
    rw [if_pos rfl]
    rfl)
  | m + 1 => by
    have a := det_lin n (M := M) (k := k) (u := fun i => dsz m (fun l => c l * W l i)) (v := W m) (x := 1) (y := c m) hk
    rw [det_sum hk m, Int.one_mul] at a
    show _ = dsz m (fun l => c l * det n (upC M k (W l))) + c m * det n (upC M k (W m))
    rw [← a]
    exact det_c n (fun j i _ _ => by
      show (if j = k then dsz m (fun l => c l * W l i) + c m * W m i else M j i) = if j = k then 1 * dsz m (fun l => c l * W l i) + c m * W m i else M j i
      rw [Int.one_mul])
/-- what is kept from table to table: lower times a column is the sum of those of the base, by determinants; then two are put in at once -/
theorem det_two {n : Nat} {M : Nat → Nat → Int} {p r : Nat} {u v : Nat → Int} (hp : p < n) (hr : r < n) (hn : p ≠ r) (hv : ∀ i, i < n → det n M * v i = dsz n (fun k => det n (upC M k v) * M k i)) : det n M * det n (upC (upC M p u) r v) = det n (upC M p u) * det n (upC M r v) - det n (upC M p v) * det n (upC M r u) := by
  have a := det_lin n (M := upC M p u) (k := r) (u := v) (v := v) (x := det n M) (y := 0) hr
  rw [Int.zero_mul, Int.add_zero] at a
  rw [← a]
  have b := det_sum (M := upC M p u) hr (c := fun k => det n (upC M k v)) (W := M) n
  have e : det n (upC (upC M p u) r (fun i => det n M * v i + 0 * v i)) = det n (upC (upC M p u) r (fun i => dsz n (fun l => det n (upC M l v) * M l i))) := det_c n (fun j i _ hi => by
    show (if j = r then det n M * v i + 0 * v i else upC M p u j i) = if j = r then dsz n (fun l => det n (upC M l v) * M l i) else upC M p u j i
    by_cases f : j = r
    · rw [if_pos f, if_pos f, ← hv i hi]
      omega
    · rw [if_neg f, if_neg f])
  rw [e, b]
  -- only two of them are left
  have z : ∀ k, k < n → k ≠ p → k ≠ r → det n (upC M k v) * det n (upC (upC M p u) r (M k)) = 0 := fun k hk h1 h2 => by
    rw [det_eq (M := upC (upC M p u) r (M k)) hk hr h2 (fun i _ => by
      unfold upC
      rw [if_neg h2, if_neg h1, if_pos rfl]), Int.mul_zero]
  have two : dsz n (fun l => det n (upC M l v) * det n (upC (upC M p u) r (M l))) = det n (upC M p v) * det n (upC (upC M p u) r (M p)) + det n (upC M r v) * det n (upC (upC M p u) r (M r)) := by
    have s := dsz_upd (f := fun l => det n (upC M l v) * det n (upC (upC M p u) r (M l))) (o := p) (x := 0) n hp
    have t := dsz_1 (f := fun i => if i = p then (0 : Int) else det n (upC M i v) * det n (upC (upC M p u) r (M i))) (o := r) n hr (fun i hi hir => by
      show (if i = p then (0 : Int) else det n (upC M i v) * det n (upC (upC M p u) r (M i))) = 0
      by_cases f : i = p
      · rw [if_pos f]
      · rw [if_neg f]
        exact z i hi f hir)
    rw [t] at s
    have s : (if r = p then (0 : Int) else det n (upC M r v) * det n (upC (upC M p u) r (M r))) = _ := s
    rw [if_neg (fun y => hn y.symm)] at s
    omega
  have e1 : det n (upC (upC M p u) r (M r)) = det n (upC M p u) := det_c n (fun j i _ _ => by
    unfold upC
    by_cases f : j = r
    · rw [if_pos f, if_neg (by omega), f]
    · rw [if_neg f])
  -- exchanged columns
  have e2 : det n (upC (upC M p u) r (M p)) = -det n (upC M r u) := by
    have w : ∀ x y : Nat → Int, det n (upC (upC M p x) r y) = -det n (upC (upC M p y) r x) := fun x y => by
      have l1 := det_lin n (M := upC M p (fun i => 1 * x i + 1 * y i)) (k := r) (u := x) (v := y) (x := 1) (y := 1) hr
      have c : ∀ (p1 q : Nat → Int), det n (upC (upC M p p1) r q) = det n (upC (upC M r q) p p1) := fun p1 q => det_c n (fun j i _ _ => by
        unfold upC
        by_cases e : j = p
        · rw [if_neg (by omega), if_pos e, if_pos e]
        · by_cases f : j = r
          · rw [if_pos f, if_neg e, if_pos f]
          · rw [if_neg f, if_neg e, if_neg e, if_neg f])
      have d : ∀ q : Nat → Int, det n (upC (upC M p (fun i => 1 * x i + 1 * y i)) r q) = 1 * det n (upC (upC M p x) r q) + 1 * det n (upC (upC M p y) r q) := fun q => by
        rw [c, c, c]
        exact det_lin n hp
      have s : ∀ q : Nat → Int, det n (upC (upC M p q) r q) = 0 := fun q => det_eq hp hr hn (fun i _ => by
        unfold upC
        rw [if_neg hn, if_pos rfl, if_pos rfl])
      rw [s, d, d, s, s] at l1
      omega
    rw [w]
    congr 1
    exact det_c n (fun j i _ _ => by
      unfold upC
      by_cases f : j = r
      · rw [if_pos f, if_pos f]
      · rw [if_neg f, if_neg f]
        by_cases g : j = p
        · rw [if_pos g, g]
        · rw [if_neg g])
  rw [two, e1, e2]
  generalize det n (upC M p v) = a1
  generalize det n (upC M r u) = a2
  generalize det n (upC M r v) = a3
  generalize det n (upC M p u) = a4
  grind
end
