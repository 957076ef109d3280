/-! THE PURE PART, equations: what a turn of gathering keeps: sums, spans, signs, bounds. -/
section
def dlin (c z : Nat → Int) : Int := c 0 * z 0 + c 1 * z 1 + c 2 * z 2 + c 3 * z 3
def dsz : Nat → (Nat → Int) → Int
  | 0, _ => 0
  | n + 1, f => dsz n f + f n
theorem dsz_congr {f g : Nat → Int} : ∀ n, (∀ i, i < n → f i = g i) → dsz n f = dsz n g
  | 0, _ => rfl
  | n + 1, h => by rw [dsz, dsz, dsz_congr n (fun i hi => h i (by omega)), h n (by omega)]
theorem dsz_upd {f : Nat → Int} {o : Nat} {x : Int} : ∀ m, o < m → dsz m (fun i => if i = o then x else f i) = dsz m f - f o + x
  | 0, h => absurd h (Nat.not_lt_zero _)
  | m + 1, h => by
    rw [dsz, dsz]
    by_cases e : o = m
    · subst e
      rw [dsz_congr (g := f) o (fun i hi => if_neg (by omega)), if_pos rfl]
      omega
    · rw [dsz_upd m (by omega), if_neg (fun z => e z.symm)]
      omega
theorem dsz_sub {f g : Nat → Int} {t : Int} : ∀ n, dsz n (fun i => f i - g i * t) = dsz n f - dsz n g * t
  | 0 => by simp [dsz]
  | n + 1 => by
    rw [dsz, dsz, dsz, dsz_sub n]
    grind
theorem dsz_0 {f : Nat → Int} : ∀ n, (∀ i, i < n → f i = 0) → dsz n f = 0
  | 0, _ => rfl
  | n + 1, h => by rw [dsz, dsz_0 n (fun i hi => h i (by omega)), h n (by omega)]; rfl
theorem dsz_1 {f : Nat → Int} {o : Nat} : ∀ n, o < n → (∀ i, i < n → i ≠ o → f i = 0) → dsz n f = f o
  | 0, h, _ => absurd h (Nat.not_lt_zero _)
  | n + 1, h, k => by
    rw [dsz]
    by_cases e : o = n
    · subst e
      rw [dsz_0 o (fun i hi => k i (by omega) (by omega)), Int.zero_add]
    · rw [dsz_1 n (by omega) (fun i hi => k i (by omega)), k n (by omega) (fun z => e z.symm), Int.add_zero]
theorem dlin_sz {a : Nat → Int} {B : Nat → Nat → Int} {c : Nat → Int} : ∀ n, dlin a (fun k => dsz n (fun i => c i * B i k)) = dsz n (fun i => c i * dlin a (B i))
  | 0 => by simp [dlin, dsz]
  | n + 1 => by
    have ih := dlin_sz (a := a) (B := B) (c := c) n
    have e : ∀ k, dsz (n + 1) (fun i => c i * B i k) = dsz n (fun i => c i * B i k) + c n * B n k := fun k => rfl
    rw [dsz, ← ih]
    unfold dlin
    simp only [e]
    grind
theorem dlin_c {a z w : Nat → Int} (h : ∀ k, k < 4 → z k = w k) : dlin a z = dlin a w := by
  unfold dlin
  rw [h 0 (by omega), h 1 (by omega), h 2 (by omega), h 3 (by omega)]
theorem dlin_sub {a z w : Nat → Int} {t : Int} : dlin a (fun k => z k - t * w k) = dlin a z - t * dlin a w := by
  unfold dlin
  grind
def tkA (n o : Nat) (α : Nat → Int) (i : Nat) : Int := if i < n ∧ i ≠ o then α i - (α i).tdiv (α o) * α o else α i
def tkB (n o : Nat) (α : Nat → Int) (B : Nat → Nat → Int) (i k : Nat) : Int := if i < n ∧ i ≠ o then B i k - (α i).tdiv (α o) * B o k else B i k
def gOne (n o : Nat) (α : Nat → Int) : Prop := o < n ∧ α o ≠ 0 ∧ (∀ i, i < n → α i ≠ 0 → (α o).natAbs ≤ (α i).natAbs) ∧ ∃ i, i < n ∧ i ≠ o ∧ α i ≠ 0
def gtK (n : Nat) (α0 : Nat → Int) (B0 : Nat → Nat → Int) : Nat → (Nat → Int) → (Nat → Nat → Int) → Prop
  | 0, α, B => α = α0 ∧ B = B0
  | k + 1, α, B => ∃ α' B' o, gtK n α0 B0 k α' B' ∧ gOne n o α' ∧ α = tkA n o α' ∧ B = tkB n o α' B'
/-- turns lead there -/
def gtS (n : Nat) (α0 : Nat → Int) (B0 : Nat → Nat → Int) (α : Nat → Int) (B : Nat → Nat → Int) : Prop := ∃ k, gtK n α0 B0 k α B
theorem gtS.rf {n : Nat} {α0 : Nat → Int} {B0 : Nat → Nat → Int} : gtS n α0 B0 α0 B0 := ⟨0, rfl, rfl⟩
theorem gtS.st {n : Nat} {α0 : Nat → Int} {B0 : Nat → Nat → Int} {α : Nat → Int} {B : Nat → Nat → Int} {o : Nat} (h : gtS n α0 B0 α B) (g : gOne n o α) : gtS n α0 B0 (tkA n o α) (tkB n o α B) := by
  obtain ⟨k, h⟩ := h
  exact ⟨k + 1, α, B, o, h, g, rfl, rfl⟩
theorem gtS_ind {n : Nat} {α0 : Nat → Int} {B0 : Nat → Nat → Int} {motive : (α : Nat → Int) → (B : Nat → Nat → Int) → gtS n α0 B0 α B → Prop} (rf : motive α0 B0 gtS.rf) (st : ∀ {α : Nat → Int} {B : Nat → Nat → Int} {o : Nat} (a : gtS n α0 B0 α B) (g : gOne n o α), motive α B a → motive (tkA n o α) (tkB n o α B) (gtS.st a g)) {α : Nat → Int} {B : Nat → Nat → Int} (h : gtS n α0 B0 α B) : motive α B h := by
  obtain ⟨k, h⟩ := h
  induction k generalizing α B with
  | zero =>
    obtain ⟨rfl, rfl⟩ := h
    exact rf
  | succ k ih =>
    obtain ⟨α', B', o, h, g, rfl, rfl⟩ := h
    exact st ⟨k, h⟩ g (ih h)
theorem tdiv_rest {a b : Int} (h : b ≠ 0) : (a - a.tdiv b * b).natAbs < b.natAbs ∧ (b.natAbs ≤ a.natAbs → 2 * (a - a.tdiv b * b).natAbs < a.natAbs) ∧ (a - a.tdiv b * b).natAbs ≤ a.natAbs := by
  have e : a - a.tdiv b * b = a.tmod b := by
    have := Int.tdiv_mul_add_tmod a b
    omega
  rw [e, Int.natAbs_tmod]
  have p : 0 < b.natAbs := by omega
  have m1 := Nat.mod_lt a.natAbs p
  have m2 := Nat.mod_le a.natAbs b.natAbs
  refine ⟨m1, fun hb => ?_, m2⟩
  have d := Nat.div_add_mod a.natAbs b.natAbs
  have q : 1 ≤ a.natAbs / b.natAbs := (Nat.one_le_div_iff p).mpr hb
  have r : b.natAbs * 1 ≤ b.natAbs * (a.natAbs / b.natAbs) := Nat.mul_le_mul_left _ q
  omega
theorem tkA_le {n o i : Nat} {α : Nat → Int} (h : α o ≠ 0) : (tkA n o α i).natAbs ≤ (α i).natAbs := by
  unfold tkA
  by_cases e : i < n ∧ i ≠ o
  · rw [if_pos e]
    exact (tdiv_rest h).2.2
  · rw [if_neg e]
    exact Nat.le_refl _
theorem gtS_le {n i : Nat} {α0 α : Nat → Int} {B0 B : Nat → Nat → Int} (h : gtS n α0 B0 α B) : (α i).natAbs ≤ (α0 i).natAbs := by
  induction h using gtS_ind with
  | rf => exact Nat.le_refl _
  | st _ g ih => exact Nat.le_trans (tkA_le g.2.1) ih
/-- at most one is not 0: no turn -/
theorem gtS_no {n : Nat} {α0 α : Nat → Int} {B0 B : Nat → Nat → Int} (h0 : ∀ i j, i < n → j < n → α0 i ≠ 0 → α0 j ≠ 0 → i = j) (h : gtS n α0 B0 α B) : α = α0 ∧ B = B0 := by
  induction h using gtS_ind with
  | rf => exact ⟨rfl, rfl⟩
  | st _ g ih =>
    obtain ⟨rfl, rfl⟩ := ih
    obtain ⟨g1, g2, _, i, i1, i2, i3⟩ := g
    exact absurd (h0 i _ i1 g1 i3 g2) i2
/-- sets of whole rows that are closed -/
def clL (L : (Nat → Int) → Prop) : Prop := ∀ z w t, L z → L w → L (fun k => z k - t * w k)
def spn (L : (Nat → Int) → Prop) (n : Nat) (B : Nat → Nat → Int) : Prop := ∀ z, L z → ∃ c : Nat → Int, ∀ k, k < 4 → z k = dsz n (fun i => c i * B i k)
theorem tkB_mem {L : (Nat → Int) → Prop} {n o : Nat} {α : Nat → Int} {B : Nat → Nat → Int} (hL : clL L) (h : ∀ i, i < n → L (B i)) (ho : o < n) : ∀ i, i < n → L (tkB n o α B i) := by
  intro i hi
  by_cases e : i < n ∧ i ≠ o
  · rw [show tkB n o α B i = fun k => B i k - (α i).tdiv (α o) * B o k from funext fun k => if_pos e]
    exact hL _ _ _ (h i hi) (h o ho)
  · rw [show tkB n o α B i = B i from funext fun k => if_neg e]
    exact h i hi
theorem tkB_spn {L : (Nat → Int) → Prop} {n o : Nat} {α : Nat → Int} {B : Nat → Nat → Int} (h : spn L n B) (ho : o < n) : spn L n (tkB n o α B) := by
  intro z hz
  obtain ⟨c, hc⟩ := h z hz
  let u : Nat → Int := fun i => if i = o then 0 else c i * (α i).tdiv (α o)
  refine ⟨fun i => if i = o then c o + dsz n u else c i, fun k hk => ?_⟩
  have e1 : dsz n (fun i => (if i = o then c o + dsz n u else c i) * tkB n o α B i k) = dsz n (fun i => if i = o then (c o + dsz n u) * B o k else (c i * B i k - u i * B o k)) := dsz_congr n fun i hi => by
    by_cases e : i = o
    · subst e
      rw [if_pos rfl, if_pos rfl]
      unfold tkB
      rw [if_neg (fun z => z.2 rfl)]
    · rw [if_neg e, if_neg e]
      unfold tkB
      rw [if_pos ⟨hi, e⟩, show u i = c i * (α i).tdiv (α o) from if_neg e]
      grind
  rw [e1, dsz_upd n ho, dsz_sub n, hc k hk, show u o = 0 from if_pos rfl]
  grind
theorem gtS_mem {L : (Nat → Int) → Prop} {n : Nat} {α0 α : Nat → Int} {B0 B : Nat → Nat → Int} (hL : clL L) (h0 : ∀ i, i < n → L (B0 i)) (h : gtS n α0 B0 α B) : ∀ i, i < n → L (B i) := by
  induction h using gtS_ind with
  | rf => exact h0
  | st _ g ih => exact tkB_mem hL ih g.1
theorem gtS_spn {L : (Nat → Int) → Prop} {n : Nat} {α0 α : Nat → Int} {B0 B : Nat → Nat → Int} (h0 : spn L n B0) (h : gtS n α0 B0 α B) : spn L n B := by
  induction h using gtS_ind with
  | rf => exact h0
  | st _ g ih => exact tkB_spn ih g.1
/-- the amounts are what a sum makes of the rows -/
theorem gtS_lin {n : Nat} {a α0 α : Nat → Int} {B0 B : Nat → Nat → Int} (h0 : ∀ i, i < n → α0 i = dlin a (B0 i)) (h : gtS n α0 B0 α B) : ∀ i, i < n → α i = dlin a (B i) := by
  induction h using gtS_ind with
  | rf => exact h0
  | @st α B o _ g ih =>
    intro i hi
    by_cases e : i < n ∧ i ≠ o
    · rw [show tkB n o α B i = fun k => B i k - (α i).tdiv (α o) * B o k from funext fun k => if_pos e, dlin_sub, ← ih i hi, ← ih o g.1]
      exact if_pos e
    · rw [show tkB n o α B i = B i from funext fun k => if_neg e, ← ih i hi]
      exact if_neg e
def rmB (n o : Nat) (B : Nat → Nat → Int) (i k : Nat) : Int := if i = o then B (n - 1) k else B i k
theorem rmB_mem {L : (Nat → Int) → Prop} {n o : Nat} {B : Nat → Nat → Int} {f : (Nat → Int) → Int} (h : ∀ i, i < n → L (B i)) (hf : ∀ i, i < n → i ≠ o → f (B i) = 0) (ho : o < n) : ∀ i, i < n - 1 → L (rmB n o B i) ∧ f (rmB n o B i) = 0 := by
  intro i hi
  by_cases e : i = o
  · rw [show rmB n o B i = B (n - 1) from funext fun k => if_pos e]
    exact ⟨h _ (by omega), hf _ (by omega) (by omega)⟩
  · rw [show rmB n o B i = B i from funext fun k => if_neg e]
    exact ⟨h _ (by omega), hf _ (by omega) e⟩
theorem rmB_spn {L : (Nat → Int) → Prop} {n o : Nat} {a : Nat → Int} {B : Nat → Nat → Int} (h : spn L n B) (hf : ∀ i, i < n → i ≠ o → dlin a (B i) = 0) (ho : o < n) (hg : dlin a (B o) ≠ 0) : spn (fun z => L z ∧ dlin a z = 0) (n - 1) (rmB n o B) := by
  intro z hz
  obtain ⟨c, hc⟩ := h z hz.1
  have e := dlin_c (a := a) hc
  rw [dlin_sz, dsz_1 n ho (fun i hi hn => by rw [hf i hi hn, Int.mul_zero]), hz.2] at e
  have c0 : c o = 0 := by
    rcases Int.mul_eq_zero.mp e.symm with y | y
    · exact y
    · exact absurd y hg
  refine ⟨fun i => if i = o then c (n - 1) else c i, fun k hk => ?_⟩
  obtain ⟨m, rfl⟩ : ∃ m, n = m + 1 := ⟨n - 1, by omega⟩
  have e1 : dsz m (fun i => (if i = o then c (m + 1 - 1) else c i) * rmB (m + 1) o B i k) = dsz m (fun i => if i = o then c m * B m k else c i * B i k) := dsz_congr m fun i hi => by
    unfold rmB
    by_cases y : i = o
    · rw [if_pos y, if_pos y, if_pos y]
      rfl
    · rw [if_neg y, if_neg y, if_neg y]
  rw [Nat.add_sub_cancel]
  rw [Nat.add_sub_cancel] at e1
  rw [e1, hc k hk, dsz]
  by_cases y : o = m
  · subst y
    rw [dsz_congr (g := fun i => c i * B i k) o (fun i hi => if_neg (by omega)), c0]
    omega
  · rw [dsz_upd m (by omega), c0]
    omega
end
