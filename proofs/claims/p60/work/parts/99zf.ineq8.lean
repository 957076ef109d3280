/-! THE PURE PART, inequalities: both phases as plain functions. -/
section
theorem imp_ok {a : Nat → Nat → Int} {R C goal : Nat} {S S' : lpS} (h : lpI a R C S) (he : impS S R C goal = some S') : ∃ row col, row < R ∧ col < C ∧ entC S goal C = some col ∧ lvR S C col R = some row ∧ S' = exS S C row col ∧ sC S col < C ∧ 0 < sT S row col ∧ 0 < sT S goal col ∧ (sK S).testBit (sC S col) = false ∧ (∀ r, r < R → 0 < sT S r col → sT S row C * sT S r col ≤ sT S r C * sT S row col) ∧ lpI a R C S' := by
  unfold impS at he
  cases q1 : entC S goal C with
  | none =>
    rw [q1] at he
    cases he
  | some col =>
    rw [q1] at he
    dsimp only at he
    cases q2 : lvR S C col R with
    | none =>
      rw [q2] at he
      cases he
    | some row =>
      rw [q2] at he
      cases he
      obtain ⟨p1, p2, p3, p4⟩ := (ent_sp C).1 _ q1
      obtain ⟨r1, r2, r3⟩ := (lv_sp R).1 _ q2
      have s : sC S col < C := by
        refine Nat.lt_of_not_le fun z => ?_
        have := h.2.2.2.2.2 _ p1 z
        rw [p3] at this
        cases this
      exact ⟨row, col, r1, p1, rfl, q2, rfl, s, r2, p2, p3, fun r hr hp => (r3 r hr hp).1, (exS_ok h r1 p1 r2 s (fun r hr hp => (r3 r hr hp).1)).1⟩
/-- turn after turn, until none does -/
def stI (R C goal : Nat) (S : lpS) : Nat → lpS
  | 0 => S
  | k + 1 => match impS (stI R C goal S k) R C goal with
    | none => stI R C goal S k
    | some S' => S'
theorem stI_0 {R C goal k : Nat} {S : lpS} (h : impS (stI R C goal S k) R C goal = none) : ∀ d, stI R C goal S (k + d) = stI R C goal S k
  | 0 => rfl
  | d + 1 => by
    have ih := stI_0 h d
    rw [show k + (d + 1) = k + d + 1 by omega, stI, ih, h]
theorem stI_1 {R C goal k : Nat} {S S' : lpS} (h : impS (stI R C goal S k) R C goal = some S') : stI R C goal S (k + 1) = S' := by
  rw [stI, h]
def unL (C : Nat) (S : lpS) : Prop := ∀ l, l < C → (sK S).testBit l = false
theorem stI_ok {a : Nat → Nat → Int} {R C : Nat} {S : lpS} (h : lpI a R C S) (hu : unL C S) : ∀ k, lpI a R C (stI R C R S k) ∧ unL C (stI R C R S k)
  | 0 => ⟨h, hu⟩
  | k + 1 => by
    obtain ⟨i1, i2⟩ := stI_ok h hu k
    cases q : impS (stI R C R S k) R C R with
    | none =>
      rw [stI_0 q 1]
      exact ⟨i1, i2⟩
    | some S' =>
      rw [stI_1 q]
      obtain ⟨row, col, x1, x2, _, _, e, _, _, _, _, _, i⟩ := imp_ok i1 q
      refine ⟨i, fun l hl => ?_⟩
      rw [e]
      show (if C ≤ sR (stI R C R S k) row then sK (stI R C R S k) ||| 2 ^ sR (stI R C R S k) row else sK (stI R C R S k)).testBit l = false
      by_cases z : C ≤ sR (stI R C R S k) row
      · rw [if_pos z, Nat.testBit_or, i2 l hl, Nat.testBit_two_pow, decide_eq_false (by omega)]
        rfl
      · rw [if_neg z]
        exact i2 l hl
theorem stI_run {a : Nat → Nat → Int} {R C N : Nat} {S : lpS} (h : lpI a R C S) (hu : unL C S) (hn : ∀ k, k < N → impS (stI R C R S k) R C R ≠ none) : lpRun a R C N (fun k => stI R C R S k) (fun k => (entC (stI R C R S k) R C).getD 0) (fun k => (lvR (stI R C R S k) C ((entC (stI R C R S k) R C).getD 0) R).getD 0) := by
  refine ⟨fun k _ => stI_ok h hu k, fun k hk => ?_⟩
  cases q : impS (stI R C R S k) R C R with
  | none => exact absurd q (hn k hk)
  | some S' =>
    obtain ⟨row, col, x1, x2, y1, y2, e, _⟩ := imp_ok (stI_ok h hu k).1 q
    have e1 : (entC (stI R C R S k) R C).getD 0 = col := by rw [y1]; rfl
    have e2 : (lvR (stI R C R S k) C ((entC (stI R C R S k) R C).getD 0) R).getD 0 = row := by rw [e1, y2]; rfl
    show entC (stI R C R S k) R C = some ((entC (stI R C R S k) R C).getD 0) ∧ lvR (stI R C R S k) C ((entC (stI R C R S k) R C).getD 0) R = some ((lvR (stI R C R S k) C ((entC (stI R C R S k) R C).getD 0) R).getD 0) ∧ stI R C R S (k + 1) = exS (stI R C R S k) C ((lvR (stI R C R S k) C ((entC (stI R C R S k) R C).getD 0) R).getD 0) ((entC (stI R C R S k) R C).getD 0)
    rw [e2, e1]
    exact ⟨y1, y2, by rw [stI_1 q, e]⟩
theorem dsz_pos {f : Nat → Int} {n : Nat} (h : 0 < dsz n f) : ∃ i, i < n ∧ 0 < f i := by
  refine Classical.byContradiction fun z => ?_
  have := dsz_le0 (f := f) n (fun i hi => Int.not_lt.mp fun y => z ⟨i, hi, y⟩)
  omega
/-- the first phase comes to its end -/
theorem stI_end {a : Nat → Nat → Int} {R C : Nat} {S : lpS} (h : lpI a R C S) (hu : unL C S) (hN : ∀ N σ co ro, lpRun a R C N σ co ro → N < 50000) : ∃ k, k < 50000 ∧ impS (stI R C R S k) R C R = none ∧ (∀ j, j < k → impS (stI R C R S j) R C R ≠ none) ∧ stI R C R S 100000 = stI R C R S k ∧ ∀ c, c < C → sC (stI R C R S k) c < C → sT (stI R C R S k) R c ≤ 0 := by
  obtain ⟨k, k1, k2, k3⟩ : ∃ k, k < 50000 ∧ impS (stI R C R S k) R C R = none ∧ ∀ j, j < k → impS (stI R C R S j) R C R ≠ none := by
    refine Classical.byContradiction fun z => ?_
    have all : ∀ n, n ≤ 50000 → ∀ k, k < n → impS (stI R C R S k) R C R ≠ none := fun n => by
      induction n with
      | zero => exact fun _ k hk => absurd hk (Nat.not_lt_zero _)
      | succ n ih =>
        intro hn k hk q
        by_cases e : k = n
        · subst e
          exact z ⟨k, by omega, q, ih (by omega)⟩
        · exact ih (by omega) k (by omega) q
    have := hN _ _ _ _ (stI_run h hu (all 50000 (Nat.le_refl _)))
    exact absurd this (Nat.lt_irrefl _)
  refine ⟨k, k1, k2, k3, ?_, fun c hc hs => ?_⟩
  · have := stI_0 k2 (100000 - k)
    rw [show k + (100000 - k) = 100000 by omega] at this
    exact this
  · obtain ⟨i1, i2⟩ := stI_ok h hu k
    obtain ⟨T, hT⟩ : ∃ T, T = stI R C R S k := ⟨_, rfl⟩
    rw [← hT] at i1 i2 k2 hs ⊢
    cases q1 : entC T R C with
    | none =>
      refine Int.not_lt.mp fun z => ?_
      have := (ent_sp C).2 q1 c hc z
      rw [i2 _ hs] at this
      cases this
    | some col =>
      exfalso
      obtain ⟨p1, p2, p3, p4⟩ := (ent_sp C).1 _ q1
      have s : sC T col < C := by
        refine Nat.lt_of_not_le fun z => ?_
        have := i1.2.2.2.2.2 _ p1 z
        rw [p3] at this
        cases this
      unfold impS at k2
      rw [q1] at k2
      dsimp only at k2
      cases q2 : lvR T C col R with
      | none =>
        have all := (lv_sp R).2 q2
        have g := i1.2.2.2.2.1.1 col p1
        rw [if_neg (by omega)] at g
        have pos : 0 < dsz R (fun r => if C ≤ sR T r then sT T r col else 0) := by
          unfold gSm at g
          omega
        obtain ⟨r, hr, hp⟩ := dsz_pos pos
        have := all r hr
        split at hp <;> omega
      | some row =>
        rw [q2] at k2
        cases k2
/-- columns by which the row would rise are kept out -/
def lkN (S : lpS) (row : Nat) : Nat → Nat
  | 0 => sK S
  | c + 1 => if sT S row c < 0 then lkN S row c ||| 2 ^ sC S c else lkN S row c
def lkS (S : lpS) (C row : Nat) : lpS := (sT S, sR S, sC S, lkN S row C, sL S)
theorem lkN_sp {S : lpS} {row : Nat} : ∀ n, (∀ l, (sK S).testBit l = true → (lkN S row n).testBit l = true) ∧ ∀ c, c < n → sT S row c < 0 → (lkN S row n).testBit (sC S c) = true
  | 0 => ⟨fun _ h => h, fun _ h => absurd h (Nat.not_lt_zero _)⟩
  | n + 1 => by
    obtain ⟨i1, i2⟩ := lkN_sp (S := S) (row := row) n
    rw [lkN]
    by_cases z : sT S row n < 0
    · rw [if_pos z]
      refine ⟨fun l hl => by rw [Nat.testBit_or, i1 l hl]; rfl, fun c hc hn => ?_⟩
      by_cases e : c = n
      · rw [Nat.testBit_or, e, Nat.testBit_two_pow_self, Bool.or_true]
      · rw [Nat.testBit_or, i2 c (by omega) hn]
        rfl
    · rw [if_neg z]
      refine ⟨i1, fun c hc hn => ?_⟩
      by_cases e : c = n
      · rw [e] at hn
        exact absurd hn z
      · exact i2 c (by omega) hn
theorem lkS_I {a : Nat → Nat → Int} {R C row : Nat} {S : lpS} (h : lpI a R C S) : lpI a R C (lkS S C row) := by
  obtain ⟨h1, h2, h3, h4, h5, h6⟩ := h
  exact ⟨h1, h2, h3, h4, h5, fun c hc hl => (lkN_sp C).1 _ (h6 c hc hl)⟩
/-- in the second phase -/
def ph2 (R C : Nat) (S : lpS) : Prop := sT S R C = 0 ∧ ∀ c, c < C → (sK S).testBit (sC S c) = false → sT S R c = 0
theorem tb_up {K K' l : Nat} (h : K.testBit l = true → K'.testBit l = true) (h2 : K'.testBit l = false) : K.testBit l = false := by
  cases q : K.testBit l with
  | false => rfl
  | true =>
    rw [h q] at h2
    cases h2
theorem lkS_2 {R C row : Nat} {S : lpS} (h : ph2 R C S) : ph2 R C (lkS S C row) := ⟨h.1, fun c hc hl => h.2 c hc (tb_up ((lkN_sp C).1 _) hl)⟩
theorem imp_2 {a : Nat → Nat → Int} {R C goal : Nat} {S S' : lpS} (h : lpI a R C S) (h2 : ph2 R C S) (he : impS S R C goal = some S') : ph2 R C S' := by
  obtain ⟨row, col, x1, x2, _, _, e, s, p, _, u, m, _⟩ := imp_ok h he
  have ex := (exS_ok h x1 x2 p s m).2
  have z0 := h2.2 col x2 u
  have L := h.2.1
  rw [← e] at ex
  have zero : ∀ c, c ≤ C → c ≠ col → sT S R c = 0 → sT S' R c = 0 := fun c hc hn hz => by
    have := ex R c (Nat.le_refl _) hc (by omega) hn
    rw [hz, z0, Int.mul_zero, Int.zero_mul] at this
    rcases Int.mul_eq_zero.mp (show sL S * sT S' R c = 0 by omega) with y | y
    · omega
    · exact y
  refine ⟨zero C (Nat.le_refl _) (by omega) h2.1, fun c hc hl => ?_⟩
  by_cases f : c = col
  · rw [f, e]
    show (if R = row then (if col = col then sL S else sT S row col) else if col = col then -sT S R col else (sT S row col * sT S R col - sT S R col * sT S row col).tdiv (sL S)) = 0
    rw [if_neg (by omega), if_pos rfl, z0]
    rfl
  · refine zero c (by omega) f (h2.2 c hc ?_)
    have l1 : sC S' c = sC S c := by
      rw [e]
      exact if_neg f
    rw [l1] at hl
    refine tb_up (fun y => ?_) hl
    rw [e]
    show (if C ≤ sR S row then sK S ||| 2 ^ sR S row else sK S).testBit (sC S c) = true
    split
    · rw [Nat.testBit_or, y]
      rfl
    · exact y
/-- the end of the first phase, at 0 -/
theorem ful_2 {a : Nat → Nat → Int} {R C : Nat} {S : lpS} (h : lpI a R C S) (he : ∀ c, c < C → sC S c < C → sT S R c ≤ 0) (h0 : sT S R C = 0) : ph2 R C (lkS S C R) := by
  refine ⟨h0, fun c hc hl => ?_⟩
  have s : sC S c < C := by
    refine Nat.lt_of_not_le fun z => ?_
    have := (lkN_sp (S := S) (row := R) C).1 _ (h.2.2.2.2.2 c hc z)
    have hl : (lkN S R C).testBit (sC S c) = false := hl
    rw [hl] at this
    cases this
  have := he c hc s
  refine Int.le_antisymm this (Int.not_lt.mp fun z => ?_)
  have := (lkN_sp (S := S) (row := R) C).2 c hc z
  have hl : (lkN S R C).testBit (sC S c) = false := hl
  rw [hl] at this
  cases this
/-- the row of a label -/
def rwF (S : lpS) (l : Nat) : Nat → Option Nat
  | 0 => none
  | r + 1 => match rwF S l r with
    | some x => some x
    | none => if sR S r = l then some r else none
theorem rwF_sp {S : lpS} {l : Nat} : ∀ n, (∀ r, rwF S l n = some r → r < n ∧ sR S r = l) ∧ (rwF S l n = none → ∀ r, r < n → sR S r ≠ l)
  | 0 => ⟨fun _ h => (by cases h), fun _ _ h => absurd h (Nat.not_lt_zero _)⟩
  | n + 1 => by
    obtain ⟨i1, i2⟩ := rwF_sp (S := S) (l := l) n
    rw [rwF]
    cases q : rwF S l n with
    | some x =>
      refine ⟨fun r hr => ?_, fun hn => by cases hn⟩
      cases hr
      have := i1 x q
      exact ⟨by omega, this.2⟩
    | none =>
      dsimp only
      by_cases z : sR S n = l
      · rw [if_pos z]
        refine ⟨fun r hr => ?_, fun hn => by cases hn⟩
        cases hr
        exact ⟨Nat.lt_succ_self _, z⟩
      · rw [if_neg z]
        refine ⟨fun r hr => (by cases hr), fun _ r hr e => ?_⟩
        by_cases f : r = n
        · rw [f] at e
          exact z e
        · exact i2 q r (by omega) e
/-- the least of a label: turn after turn -/
def mnI (R C l : Nat) (S : lpS) : Nat → lpS
  | 0 => S
  | k + 1 => match rwF (mnI R C l S k) l R with
    | none => mnI R C l S k
    | some row => match impS (mnI R C l S k) R C row with
      | none => mnI R C l S k
      | some S' => S'
def mnS (S : lpS) (R C l : Nat) : lpS := match rwF (mnI R C l S 100000) l R with
  | none => (sT (mnI R C l S 100000), sR (mnI R C l S 100000), sC (mnI R C l S 100000), sK (mnI R C l S 100000) ||| 2 ^ l, sL (mnI R C l S 100000))
  | some row => lkS (mnI R C l S 100000) C row
def mnA (S : lpS) (R C : Nat) : Nat → lpS
  | 0 => S
  | l + 1 => mnS (mnA S R C l) R C l
theorem mnI_ok {a : Nat → Nat → Int} {R C l : Nat} {S : lpS} (h : lpI a R C S) (h2 : ph2 R C S) : ∀ k, lpI a R C (mnI R C l S k) ∧ ph2 R C (mnI R C l S k)
  | 0 => ⟨h, h2⟩
  | k + 1 => by
    have ih := mnI_ok (l := l) h h2 k
    rw [mnI]
    split
    · exact ih
    · split
      · exact ih
      · rename_i row _ S' q
        exact ⟨by
          obtain ⟨_, _, _, _, _, _, _, _, _, _, _, _, i⟩ := imp_ok ih.1 q
          exact i, imp_2 ih.1 ih.2 q⟩
theorem mnS_ok {a : Nat → Nat → Int} {R C l : Nat} {S : lpS} (h : lpI a R C S) (h2 : ph2 R C S) : lpI a R C (mnS S R C l) ∧ ph2 R C (mnS S R C l) := by
  obtain ⟨i1, i2⟩ := mnI_ok (l := l) h h2 100000
  unfold mnS
  split
  · obtain ⟨a1, a2, a3, a4, a5, a6⟩ := i1
    have up : ∀ x, (sK (mnI R C l S 100000)).testBit x = true → (sK (mnI R C l S 100000) ||| 2 ^ l).testBit x = true := fun x hx => by
      rw [Nat.testBit_or, hx]
      rfl
    exact ⟨⟨a1, a2, a3, a4, a5, fun c hc hl => up _ (a6 c hc hl)⟩, i2.1, fun c hc hl => i2.2 c hc (tb_up (up _) hl)⟩
  · exact ⟨lkS_I i1, lkS_2 i2⟩
theorem mnA_ok {a : Nat → Nat → Int} {R C : Nat} {S : lpS} (h : lpI a R C S) (h2 : ph2 R C S) : ∀ n, lpI a R C (mnA S R C n) ∧ ph2 R C (mnA S R C n)
  | 0 => ⟨h, h2⟩
  | n + 1 => by
    obtain ⟨i1, i2⟩ := mnA_ok h h2 n
    exact mnS_ok i1 i2
/-- the values -/
def vlS (S : lpS) (R C l : Nat) : Int := match rwF S l R with
  | none => 0
  | some r => sT S r C
theorem vlS_d {a : Nat → Nat → Int} {R C l : Nat} {S : lpS} (h : lpI a R C S) : vlS S R C l = dsz R (fun k => if sR S k = l then sT S k C else 0) := by
  unfold vlS
  cases q : rwF S l R with
  | none => exact (dsz_0 R (fun k hk => if_neg ((rwF_sp R).2 q k hk))).symm
  | some r =>
    obtain ⟨h1, h2⟩ := (rwF_sp R).1 r q
    dsimp only
    rw [dsz_1 (o := r) R h1 (fun k hk hn => if_neg (fun z => hn (h.2.2.2.1.2.2.1 k r hk h1 (by rw [z, h2])))), if_pos h2]
theorem vlS_0 {a : Nat → Nat → Int} {R C l : Nat} {S : lpS} (h : lpI a R C S) : 0 ≤ vlS S R C l := by
  unfold vlS
  cases q : rwF S l R with
  | none => exact Int.le_refl _
  | some r => exact h.2.2.1 r ((rwF_sp R).1 r q).1
theorem vlS_B {a : Nat → Nat → Int} {R C l B : Nat} {S : lpS} (h : lpI a R C S) (hb : bdA a R C B) : (vlS S R C l).natAbs ≤ B := by
  unfold vlS
  cases q : rwF S l R with
  | none => exact Nat.zero_le _
  | some r => exact lp_T h hb ((rwF_sp R).1 r q).1 (Nat.le_refl _)
/-- the values fulfil the first table -/
theorem vlS_eq {a : Nat → Nat → Int} {R C : Nat} {S : lpS} (h : lpI a R C S) (h0 : sT S R C = 0) {i : Nat} (hi : i < R) : dsz C (fun l => vlS S R C l * a l i) = sL S * a (C + R) i := by
  have art : ∀ k, k < R → C ≤ sR S k → sT S k C = 0 := fun k hk hc => by
    have g := h.2.2.2.2.1.2
    rw [h0] at g
    refine Classical.byContradiction fun z => ?_
    have p := h.2.2.1 k hk
    have e : dsz R (fun r => if C ≤ sR S r then sT S r C else 0) = dsz R (fun r => if r = k then 0 else if C ≤ sR S r then sT S r C else 0) + sT S k C := by
      rw [dsz_upd (f := fun r => if C ≤ sR S r then sT S r C else 0) R hk, if_pos hc]
      omega
    have nn := dsz_le0 (f := fun r => -(if r = k then 0 else if C ≤ sR S r then sT S r C else 0)) R (fun r hr => by
      have := h.2.2.1 r hr
      show -(if r = k then 0 else if C ≤ sR S r then sT S r C else 0) ≤ 0
      split
      · omega
      · split <;> omega)
    rw [dsz_neg] at nn
    have g : 0 = dsz R (fun r => if C ≤ sR S r then sT S r C else 0) := g
    omega
  have t := h.1.2.2 C i (Nat.le_refl _) hi
  rw [h.2.2.2.1.2.2.2.2.2.1] at t
  rw [t]
  have e1 : dsz C (fun l => vlS S R C l * a l i) = dsz C (fun l => dsz R (fun k => a l i * (if sR S k = l then sT S k C else 0))) := dsz_congr C (fun l _ => by
    rw [vlS_d h, Int.mul_comm, ← dsz_mul])
  rw [e1, dsz_swap]
  refine dsz_congr R (fun k hk => ?_)
  show dsz C (fun l => a l i * (if sR S k = l then sT S k C else 0)) = sT S k C * a (sR S k) i
  by_cases z : sR S k < C
  · rw [dsz_1 (o := sR S k) C z (fun l hl hn => by rw [if_neg (fun y => hn y.symm), Int.mul_zero]), if_pos rfl, Int.mul_comm]
  · rw [art k hk (by omega), Int.zero_mul]
    exact dsz_0 C (fun l _ => by
      split
      · exact Int.mul_zero _
      · exact Int.mul_zero _)
end
