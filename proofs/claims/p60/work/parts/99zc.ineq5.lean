/-! THE PURE PART, inequalities: no base comes twice (the lowest label that will do). -/
section
/-- a run of exchanges for the row of the sum -/
def lpRun (a : Nat → Nat → Int) (R C N : Nat) (σ : Nat → lpS) (co ro : Nat → Nat) : Prop := (∀ k, k ≤ N → lpI a R C (σ k) ∧ ∀ l, l < C → (sK (σ k)).testBit l = false) ∧ ∀ k, k < N → entC (σ k) R C = some (co k) ∧ lvR (σ k) C (co k) R = some (ro k) ∧ σ (k + 1) = exS (σ k) C (ro k) (co k)
def bas (R : Nat) (S : lpS) (l : Nat) : Prop := ∃ r, r < R ∧ sR S r = l
theorem run_st {a : Nat → Nat → Int} {R C N : Nat} {σ : Nat → lpS} {co ro : Nat → Nat} (h : lpRun a R C N σ co ro) {k : Nat} (hk : k < N) : co k < C ∧ ro k < R ∧ 0 < sT (σ k) R (co k) ∧ 0 < sT (σ k) (ro k) (co k) ∧ sC (σ k) (co k) < C ∧ (∀ r, r < R → 0 < sT (σ k) r (co k) → sT (σ k) (ro k) C * sT (σ k) r (co k) ≤ sT (σ k) r C * sT (σ k) (ro k) (co k) ∧ (sT (σ k) (ro k) C * sT (σ k) r (co k) = sT (σ k) r C * sT (σ k) (ro k) (co k) → sR (σ k) (ro k) ≤ sR (σ k) r)) ∧ (∀ c, c < C → 0 < sT (σ k) R c → sC (σ k) c < C → sC (σ k) (co k) ≤ sC (σ k) c) := by
  obtain ⟨h1, h2⟩ := h
  obtain ⟨e1, e2, _⟩ := h2 k hk
  obtain ⟨i, f⟩ := h1 k (by omega)
  obtain ⟨p1, p2, p3, p4⟩ := (ent_sp C).1 _ e1
  obtain ⟨q1, q2, q3⟩ := (lv_sp R).1 _ e2
  refine ⟨p1, q1, p2, q2, ?_, q3, fun c hc hp hs => p4 c hc hp (f _ hs)⟩
  refine Nat.lt_of_not_le fun z => ?_
  have := i.2.2.2.2.2 _ p1 z
  rw [p3] at this
  cases this
theorem run_sR {a : Nat → Nat → Int} {R C N : Nat} {σ : Nat → lpS} {co ro : Nat → Nat} (h : lpRun a R C N σ co ro) {k : Nat} (hk : k < N) : sR (σ (k + 1)) = exL (sR (σ k)) (ro k) (sC (σ k) (co k)) ∧ sT (σ (k + 1)) = exT (sT (σ k)) (sL (σ k)) (ro k) (co k) ∧ sL (σ (k + 1)) = sT (σ k) (ro k) (co k) := by
  rw [(h.2 k hk).2.2]
  exact ⟨rfl, rfl, rfl⟩
/-- who enters, who leaves -/
theorem bas_st {a : Nat → Nat → Int} {R C N : Nat} {σ : Nat → lpS} {co ro : Nat → Nat} (h : lpRun a R C N σ co ro) {k l : Nat} (hk : k < N) : (bas R (σ (k + 1)) l ↔ (l = sC (σ k) (co k) ∨ (bas R (σ k) l ∧ l ≠ sR (σ k) (ro k)))) := by
  obtain ⟨c1, r1, _⟩ := run_st h hk
  obtain ⟨e, _⟩ := run_sR h hk
  obtain ⟨_, _, _, ⟨_, _, l3, _, l5, _⟩, _⟩ := (h.1 k (by omega)).1
  unfold bas
  rw [e]
  constructor
  · rintro ⟨r, hr, hl⟩
    by_cases f : r = ro k
    · rw [f, exL_k] at hl
      exact Or.inl hl.symm
    · rw [exL_n f] at hl
      exact Or.inr ⟨⟨r, hr, hl⟩, fun z => f (l3 r _ hr r1 (by rw [hl, z]))⟩
  · rintro (z | ⟨⟨r, hr, hl⟩, z⟩)
    · exact ⟨ro k, r1, by rw [exL_k, z]⟩
    · have f : r ≠ ro k := fun y => z (by rw [← hl, y])
      exact ⟨r, hr, by rw [exL_n f]; exact hl⟩
/-- never enters: stays out -/
theorem out_st {a : Nat → Nat → Int} {R C N : Nat} {σ : Nat → lpS} {co ro : Nat → Nat} (h : lpRun a R C N σ co ro) {i l : Nat} : ∀ d, i + d ≤ N → (∀ k, i ≤ k → k < i + d → sC (σ k) (co k) ≠ l) → ¬ bas R (σ i) l → ¬ bas R (σ (i + d)) l
  | 0, _, _, hb => hb
  | d + 1, hd, he, hb => by
    have ih := out_st h d (by omega) (fun k h1 h2 => he k h1 (by omega)) hb
    rw [show i + (d + 1) = i + d + 1 by omega, bas_st h (by omega)]
    rintro (z | z)
    · exact he (i + d) (by omega) (by omega) z.symm
    · exact ih z.1
/-- never leaves: stays in -/
theorem in_st {a : Nat → Nat → Int} {R C N : Nat} {σ : Nat → lpS} {co ro : Nat → Nat} (h : lpRun a R C N σ co ro) {i l : Nat} : ∀ d, i + d ≤ N → (∀ k, i ≤ k → k < i + d → sR (σ k) (ro k) ≠ l) → bas R (σ i) l → bas R (σ (i + d)) l
  | 0, _, _, hb => hb
  | d + 1, hd, he, hb => by
    have ih := in_st h d (by omega) (fun k h1 h2 => he k h1 (by omega)) hb
    rw [show i + (d + 1) = i + d + 1 by omega, bas_st h (by omega)]
    exact Or.inr ⟨ih, fun z => he (i + d) (by omega) (by omega) z.symm⟩
/-- a column by the base of another table -/
def D2 (a : Nat → Nat → Int) (R : Nat) (S : lpS) (k l : Nat) : Int := det R (upC (fun j => a (sR S j)) k (a l))
theorem D2_in {a : Nat → Nat → Int} {R C : Nat} {S : lpS} {k r : Nat} (h : lpI a R C S) (hk : k < R) (hr : r < R) : D2 a R S k (sR S r) = if k = r then sL S else 0 := by
  by_cases e : k = r
  · subst e
    rw [if_pos rfl, h.1.1]
    exact det_c R (fun j i _ _ => by
      show (if j = k then a (sR S k) i else a (sR S j) i) = a (sR S j) i
      by_cases f : j = k
      · rw [if_pos f, f]
      · rw [if_neg f])
  · rw [if_neg e]
    exact det_eq (a := k) (b := r) hk hr e (fun i _ => by
      show (if k = k then a (sR S r) i else a (sR S k) i) = (if r = k then a (sR S r) i else a (sR S r) i)
      rw [if_pos rfl]
      by_cases f : r = k
      · rw [if_pos f]
      · rw [if_neg f])
theorem D2_out {a : Nat → Nat → Int} {R C : Nat} {S : lpS} {k c : Nat} (h : lpI a R C S) (hk : k < R) (hc : c ≤ C) : D2 a R S k (sC S c) = sT S k c := (h.1.2.1 k c hk hc).symm
/-- a sum of columns that is 0, by the base of another table -/
theorem D2_rel {a : Nat → Nat → Int} {R C : Nat} {S1 : lpS} {S2 : lpS} {c k : Nat} (h1 : lpI a R C S1) (hc : c ≤ C) (hk : k < R) : sL S1 * D2 a R S2 k (sC S1 c) = dsz R (fun r => sT S1 r c * D2 a R S2 k (sR S1 r)) := by
  have e := h1.1.2.2 c
  have s := det_sum (M := fun j => a (sR S2 j)) hk (c := fun r => sT S1 r c) (W := fun r => a (sR S1 r)) R
  have l := det_lin R (M := fun j => a (sR S2 j)) (k := k) (u := a (sC S1 c)) (v := a (sC S1 c)) (x := sL S1) (y := 0) hk
  rw [Int.zero_mul, Int.add_zero] at l
  unfold D2
  rw [← l, ← s]
  exact det_c R (fun j i _ hi => by
    show (if j = k then sL S1 * a (sC S1 c) i + 0 * a (sC S1 c) i else a (sR S2 j) i) = if j = k then dsz R (fun r => sT S1 r c * a (sR S1 r) i) else a (sR S2 j) i
    by_cases f : j = k
    · rw [if_pos f, if_pos f, ← e i hc hi]
      omega
    · rw [if_neg f, if_neg f])
/-- the values of the same base are the same -/
theorem val_eq {a : Nat → Nat → Int} {R C : Nat} {S1 S2 : lpS} (h1 : lpI a R C S1) (h2 : lpI a R C S2) {p r : Nat} (hp : p < R) (hr : r < R) (e : sR S1 p = sR S2 r) (hb : ∀ l, bas R S1 l → bas R S2 l) : sL S1 * sT S2 r C = sT S1 p C * sL S2 := by
  have rel := D2_rel (S2 := S2) h1 (Nat.le_refl C) hr
  obtain ⟨_, _, _, ⟨_, _, l3, _, _, l6, _⟩, _⟩ := h1
  obtain ⟨_, _, _, ⟨_, _, m3, _, _, m6, _⟩, _⟩ := id h2
  rw [l6, ← m6, D2_out h2 hr (Nat.le_refl C), dsz_1 (o := p) R hp (fun k hk hn => ?_), e, D2_in h2 hr hr, if_pos rfl] at rel
  · exact rel
  · obtain ⟨q, q1, q2⟩ := hb (sR S1 k) ⟨k, hk, rfl⟩
    have : r ≠ q := fun z => hn (l3 k p hk hp (by rw [← q2, ← z, e]))
    show sT S1 k C * D2 a R S2 r (sR S1 k) = 0
    rw [← q2, D2_in h2 hr q1, if_neg this, Int.mul_zero]
theorem dsz_swap {f : Nat → Nat → Int} {m : Nat} : ∀ n, dsz n (fun i => dsz m (fun j => f i j)) = dsz m (fun j => dsz n (fun i => f i j))
  | 0 => by
    rw [dsz]
    exact (dsz_0 m (fun _ _ => rfl)).symm
  | n + 1 => by
    rw [dsz, dsz_swap n, ← dsz_add]
    rfl
/-- the sum's value by labels -/
theorem gS_lab {R C c : Nat} {S : lpS} (h : ∀ r, r < R → sR S r < C + R) : gSm S R C c = dsz R (fun m => dsz R (fun r => if sR S r = C + m then sT S r c else 0)) := by
  rw [dsz_swap]
  unfold gSm
  refine dsz_congr R (fun r hr => ?_)
  have b := h r hr
  by_cases e : C ≤ sR S r
  · rw [if_pos e, dsz_1 (o := sR S r - C) R (by omega) (fun m _ hm => if_neg (by omega)), if_pos (by omega)]
  · rw [if_neg e, dsz_0 R (fun m _ => if_neg (by omega))]
theorem obj_eq {a : Nat → Nat → Int} {R C : Nat} {S1 S2 : lpS} (h1 : lpI a R C S1) (h2 : lpI a R C S2) (hb : ∀ l, bas R S1 l ↔ bas R S2 l) : sL S1 * sT S2 R C = sT S1 R C * sL S2 := by
  rw [h1.2.2.2.2.1.2, h2.2.2.2.2.1.2, gS_lab h1.2.2.2.1.1, gS_lab h2.2.2.2.1.1, Int.mul_comm _ (sL S2), ← dsz_mul, ← dsz_mul]
  refine dsz_congr R (fun m _ => ?_)
  by_cases e : bas R S1 (C + m)
  · obtain ⟨p, p1, p2⟩ := e
    obtain ⟨r, r1, r2⟩ := (hb _).mp ⟨p, p1, p2⟩
    have x1 : dsz R (fun r => if sR S1 r = C + m then sT S1 r C else 0) = sT S1 p C := by
      rw [dsz_1 (o := p) R p1 (fun k hk hn => if_neg (fun z => hn (h1.2.2.2.1.2.2.1 k p hk p1 (by rw [z, p2])))), if_pos p2]
    have x2 : dsz R (fun r => if sR S2 r = C + m then sT S2 r C else 0) = sT S2 r C := by
      rw [dsz_1 (o := r) R r1 (fun k hk hn => if_neg (fun z => hn (h2.2.2.2.1.2.2.1 k r hk r1 (by rw [z, r2])))), if_pos r2]
    show sL S1 * dsz R (fun r => if sR S2 r = C + m then sT S2 r C else 0) = sL S2 * dsz R (fun r => if sR S1 r = C + m then sT S1 r C else 0)
    rw [x1, x2, val_eq h1 h2 p1 r1 (by rw [p2, r2]) (fun l => (hb l).mp), Int.mul_comm]
  · have e2 : ¬ bas R S2 (C + m) := fun z => e ((hb _).mpr z)
    show sL S1 * dsz R (fun r => if sR S2 r = C + m then sT S2 r C else 0) = sL S2 * dsz R (fun r => if sR S1 r = C + m then sT S1 r C else 0)
    rw [dsz_0 R (fun r hr => if_neg (fun z => e2 ⟨r, hr, z⟩)), dsz_0 R (fun r hr => if_neg (fun z => e ⟨r, hr, z⟩)), Int.mul_zero, Int.mul_zero]
/-- the sum never rises -/
theorem obj_st {a : Nat → Nat → Int} {R C N : Nat} {σ : Nat → lpS} {co ro : Nat → Nat} (h : lpRun a R C N σ co ro) {k : Nat} (hk : k < N) : sL (σ k) * sT (σ (k + 1)) R C = sL (σ (k + 1)) * sT (σ k) R C - sT (σ k) R (co k) * sT (σ k) (ro k) C := by
  obtain ⟨c1, r1, _, p, s, m, _⟩ := run_st h hk
  have x := (exS_ok (h.1 k (by omega)).1 r1 c1 p s (fun r hr hp => (m r hr hp).1)).2 R C (Nat.le_refl _) (Nat.le_refl _) (by omega) (by omega)
  rw [(run_sR h hk).2.2, (h.2 k hk).2.2]
  exact x
theorem obj_le {a : Nat → Nat → Int} {R C N : Nat} {σ : Nat → lpS} {co ro : Nat → Nat} (h : lpRun a R C N σ co ro) {i : Nat} : ∀ d, i + d ≤ N → sT (σ (i + d)) R C * sL (σ i) ≤ sT (σ i) R C * sL (σ (i + d))
  | 0, _ => Int.le_refl _
  | d + 1, hd => by
    have ih := obj_le h (i := i) d (by omega)
    have st := obj_st h (show i + d < N by omega)
    obtain ⟨c1, r1, p1, _⟩ := run_st h (show i + d < N by omega)
    have nn := Int.mul_nonneg (show 0 ≤ sT (σ (i + d)) R (co (i + d)) by omega) ((h.1 (i + d) (by omega)).1.2.2.1 _ r1)
    have one : sT (σ (i + d + 1)) R C * sL (σ (i + d)) ≤ sT (σ (i + d)) R C * sL (σ (i + d + 1)) := by
      rw [Int.mul_comm, st, Int.mul_comm (sT (σ (i + d)) R C)]
      omega
    exact rat_tr ((h.1 _ (by omega)).1.2.1) ((h.1 _ (by omega)).1.2.1) ((h.1 _ (by omega)).1.2.1) one ih
/-- where the same base comes again, nothing was gained in between -/
theorem degen {a : Nat → Nat → Int} {R C N : Nat} {σ : Nat → lpS} {co ro : Nat → Nat} (h : lpRun a R C N σ co ro) {i j : Nat} (hij : i < j) (hj : j ≤ N) (hb : ∀ l, bas R (σ i) l ↔ bas R (σ j) l) {k : Nat} (h1 : i ≤ k) (h2 : k < j) : sT (σ k) (ro k) C = 0 := by
  have eq := obj_eq (h.1 i (by omega)).1 (h.1 j hj).1 hb
  obtain ⟨d, rfl⟩ : ∃ d, k = i + d := ⟨k - i, by omega⟩
  obtain ⟨e, rfl⟩ : ∃ e, j = i + d + 1 + e := ⟨j - (i + d + 1), by omega⟩
  have l1 := obj_le h d (show i + d ≤ N by omega)
  have l2 := obj_le h e (show i + d + 1 + e ≤ N by omega)
  have st := obj_st h (show i + d < N by omega)
  obtain ⟨c1, r1, p1, _⟩ := run_st h (show i + d < N by omega)
  have lp : ∀ k, k ≤ N → 0 < sL (σ k) := fun k hk => (h.1 k hk).1.2.1
  -- from the middle round to the middle
  have a1 := rat_tr (lp (i + d) (by omega)) (lp i (by omega)) (lp (i + d + 1 + e) (by omega)) l1 (by rw [← eq, Int.mul_comm]; exact Int.le_refl _)
  have a2 := rat_tr (lp (i + d) (by omega)) (lp (i + d + 1 + e) (by omega)) (lp (i + d + 1) (by omega)) a1 l2
  rw [Int.mul_comm, Int.mul_comm (sT (σ (i + d + 1)) R C), st] at a2
  have nn := (h.1 (i + d) (by omega)).1.2.2.1 _ r1
  rcases Int.lt_or_le 0 (sT (σ (i + d)) (ro (i + d)) C) with z | z
  · have := Int.mul_pos p1 z
    omega
  · omega
def nzv (R C : Nat) (S : lpS) (l : Nat) : Prop := ∃ r, r < R ∧ sR S r = l ∧ sT S r C ≠ 0
theorem nz_st {a : Nat → Nat → Int} {R C N : Nat} {σ : Nat → lpS} {co ro : Nat → Nat} (h : lpRun a R C N σ co ro) {k l : Nat} (hk : k < N) (hz : sT (σ k) (ro k) C = 0) : nzv R C (σ (k + 1)) l ↔ nzv R C (σ k) l := by
  obtain ⟨c1, r1, _, p, s, m, _⟩ := run_st h hk
  have x := (exS_ok (h.1 k (by omega)).1 r1 c1 p s (fun r hr hp => (m r hr hp).1)).2
  obtain ⟨eR, eT, _⟩ := run_sR h hk
  have lp := (h.1 k (by omega)).1.2.1
  have other : ∀ r, r < R → r ≠ ro k → (sT (σ (k + 1)) r C = 0 ↔ sT (σ k) r C = 0) := fun r hr hn => by
    have y := x r C (by omega) (Nat.le_refl _) hn (by omega)
    rw [hz, Int.mul_zero, Int.sub_zero, ← (h.2 k hk).2.2] at y
    constructor
    · intro z
      rw [z, Int.mul_zero] at y
      rcases Int.mul_eq_zero.mp y.symm with w | w
      · omega
      · exact w
    · intro z
      rw [z, Int.mul_zero] at y
      rcases Int.mul_eq_zero.mp y with w | w
      · omega
      · exact w
  have own : sT (σ (k + 1)) (ro k) C = 0 := by
    rw [eT]
    unfold exT
    rw [if_pos rfl, if_neg (by omega)]
    exact hz
  unfold nzv
  constructor
  · rintro ⟨r, hr, hl, hn⟩
    have e : r ≠ ro k := fun z => hn (by rw [z]; exact own)
    rw [eR, exL_n e] at hl
    exact ⟨r, hr, hl, fun z => hn ((other r hr e).mpr z)⟩
  · rintro ⟨r, hr, hl, hn⟩
    have e : r ≠ ro k := fun z => hn (by rw [z]; exact hz)
    exact ⟨r, hr, by rw [eR, exL_n e]; exact hl, fun z => hn ((other r hr e).mp z)⟩
theorem nz_all {a : Nat → Nat → Int} {R C N : Nat} {σ : Nat → lpS} {co ro : Nat → Nat} (h : lpRun a R C N σ co ro) {i l : Nat} : ∀ d, i + d ≤ N → (∀ k, i ≤ k → k < i + d → sT (σ k) (ro k) C = 0) → (nzv R C (σ (i + d)) l ↔ nzv R C (σ i) l)
  | 0, _, _ => Iff.rfl
  | d + 1, hd, hz => by
    rw [show i + (d + 1) = i + d + 1 by omega, nz_st h (show i + d < N by omega) (hz _ (by omega) (by omega))]
    exact nz_all h d (by omega) (fun k h1 h2 => hz k h1 (by omega))
theorem max_ex {f : Nat → Nat} {i : Nat} : ∀ d, ∃ k, i ≤ k ∧ k < i + d + 1 ∧ ∀ m, i ≤ m → m < i + d + 1 → f m ≤ f k
  | 0 => ⟨i, Nat.le_refl _, by omega, fun m h1 h2 => by rw [show m = i by omega]; exact Nat.le_refl _⟩
  | d + 1 => by
    obtain ⟨k, k1, k2, k3⟩ := max_ex (f := f) (i := i) d
    by_cases e : f k ≤ f (i + d + 1)
    · refine ⟨i + d + 1, by omega, by omega, fun m h1 h2 => ?_⟩
      by_cases g : m = i + d + 1
      · rw [g]
        exact Nat.le_refl _
      · exact Nat.le_trans (k3 m h1 (by omega)) e
    · refine ⟨k, k1, by omega, fun m h1 h2 => ?_⟩
      by_cases g : m = i + d + 1
      · rw [g]
        omega
      · exact k3 m h1 (by omega)
/-- no base comes twice -/
theorem no_cycle {a : Nat → Nat → Int} {R C N : Nat} {σ : Nat → lpS} {co ro : Nat → Nat} (h : lpRun a R C N σ co ro) {i j : Nat} (hij : i < j) (hj : j ≤ N) : ¬ ∀ l, bas R (σ i) l ↔ bas R (σ j) l := by
  intro hb
  have dg := fun k h1 h2 => degen h hij hj hb (k := k) h1 h2
  obtain ⟨k2, a1, a2, a3⟩ := max_ex (f := fun k => sC (σ k) (co k)) (i := i) (j - i - 1)
  have a2 : k2 < j := by omega
  have a3 : ∀ m, i ≤ m → m < j → sC (σ m) (co m) ≤ sC (σ k2) (co k2) := fun m h1 h2 => a3 m h1 (by omega)
  obtain ⟨t, ht⟩ : ∃ t, t = sC (σ k2) (co k2) := ⟨_, rfl⟩
  rw [← ht] at a3
  have I := fun k (hk : k ≤ N) => (h.1 k hk).1
  obtain ⟨c2, r2, pR2, p2, s2, m2, low2⟩ := run_st h (show k2 < N by omega)
  rw [← ht] at s2 low2
  -- t is out at k2
  have tout : ¬ bas R (σ k2) t := by
    rintro ⟨r, hr, hl⟩
    exact (I k2 (by omega)).2.2.2.1.2.2.2.2.1 r (co k2) hr c2 (by rw [hl, ht])
  have tin : bas R (σ (k2 + 1)) t := (bas_st h (by omega)).mpr (Or.inl ht)
  -- it leaves somewhere
  have leaves : ∃ k1, i ≤ k1 ∧ k1 < j ∧ sR (σ k1) (ro k1) = t := Classical.byContradiction fun z => by
    have z : ∀ k, i ≤ k → k < j → sR (σ k) (ro k) ≠ t := fun k x y w => z ⟨k, x, y, w⟩
    have x1 := in_st h (i := k2 + 1) (l := t) (j - (k2 + 1)) (by omega) (fun k u v => z k (by omega) (by omega)) tin
    rw [show k2 + 1 + (j - (k2 + 1)) = j by omega] at x1
    have x2 := (hb t).mpr x1
    have x3 := in_st h (i := i) (l := t) (k2 - i) (by omega) (fun k u v => z k u (by omega)) x2
    rw [show i + (k2 - i) = k2 by omega] at x3
    exact tout x3
  obtain ⟨k1, b1, b2, b3⟩ := leaves
  obtain ⟨c1, r1, pR1, p1, s1, m1, low1⟩ := run_st h (show k1 < N by omega)
  obtain ⟨s, hs⟩ : ∃ s, s = sC (σ k1) (co k1) := ⟨_, rfl⟩
  rw [← hs] at s1
  have st : s ≤ t := by
    rw [hs]
    exact a3 k1 b1 b2
  have sne : s ≠ t := fun z => (I k1 (by omega)).2.2.2.1.2.2.2.2.1 (ro k1) (co k1) r1 c1 (by rw [b3, ← z, hs])
  -- who is in at k1 and out at k2 enters somewhere
  have enters : ∀ l, bas R (σ k1) l → ¬ bas R (σ k2) l → l ≤ t ∧ l < C := fun l hin hout => by
    have : ∃ m, i ≤ m ∧ m < j ∧ sC (σ m) (co m) = l := Classical.byContradiction fun z => by
      have z : ∀ k, i ≤ k → k < j → sC (σ k) (co k) ≠ l := fun k x y w => z ⟨k, x, y, w⟩
      rcases Nat.lt_or_ge k2 k1 with u | u
      · have x := out_st h (i := k2) (l := l) (k1 - k2) (by omega) (fun k v w => z k (by omega) (by omega)) hout
        rw [show k2 + (k1 - k2) = k1 by omega] at x
        exact x hin
      · have x := out_st h (i := k2) (l := l) (j - k2) (by omega) (fun k v w => z k (by omega) (by omega)) hout
        rw [show k2 + (j - k2) = j by omega] at x
        have x2 : ¬ bas R (σ i) l := fun y => x ((hb l).mp y)
        have x3 := out_st h (i := i) (l := l) (k1 - i) (by omega) (fun k v w => z k v (by omega)) x2
        rw [show i + (k1 - i) = k1 by omega] at x3
        exact x3 hin
    obtain ⟨m, m1', m2', m3'⟩ := this
    have q := (run_st h (show m < N by omega)).2.2.2.2.1
    rw [m3'] at q
    refine ⟨?_, q⟩
    rw [← m3']
    exact a3 m m1' m2'
  -- what a label costs at k2
  obtain ⟨Z, hZ⟩ : ∃ Z : Nat → Int, Z = fun l => dsz R (fun k => if C ≤ sR (σ k2) k then D2 a R (σ k2) k l else 0) - (if C ≤ l then sL (σ k2) else 0) := ⟨_, rfl⟩
  have Zin : ∀ r, r < R → Z (sR (σ k2) r) = 0 := fun r hr => by
    rw [hZ]
    show dsz R (fun k => if C ≤ sR (σ k2) k then D2 a R (σ k2) k (sR (σ k2) r) else 0) - (if C ≤ sR (σ k2) r then sL (σ k2) else 0) = 0
    have e : ∀ k, k < R → k ≠ r → (if C ≤ sR (σ k2) k then D2 a R (σ k2) k (sR (σ k2) r) else 0) = 0 := fun k hk hn => by
      rw [D2_in (I k2 (by omega)) hk hr, if_neg hn]
      by_cases f : C ≤ sR (σ k2) k
      · rw [if_pos f]
      · rw [if_neg f]
    rw [dsz_1 (o := r) R hr e, D2_in (I k2 (by omega)) hr hr, if_pos rfl]
    omega
  have Zout : ∀ c, c < C → Z (sC (σ k2) c) = sT (σ k2) R c := fun c hc => by
    rw [hZ, (I k2 (by omega)).2.2.2.2.1.1 c hc]
    show dsz R (fun k => if C ≤ sR (σ k2) k then D2 a R (σ k2) k (sC (σ k2) c) else 0) - _ = _
    congr 1
    unfold gSm
    refine dsz_congr R (fun k hk => ?_)
    rw [D2_out (I k2 (by omega)) hk (by omega)]
  -- out at k2, structural, below t: costs nothing above 0
  have Zlow : ∀ l, l < C → l < t → Z l ≤ 0 := fun l hC hl => by
    rcases (I k2 (by omega)).2.2.2.1.2.2.2.2.2.2 l (by omega) with ⟨r, r', e⟩ | ⟨c, c', e⟩
    · rw [← e, Zin r r']
      exact Int.le_refl _
    · rw [← e, Zout c c']
      refine Int.not_lt.mp fun z => ?_
      have := low2 c c' z (by rw [e]; exact hC)
      rw [e] at this
      omega
  have rel : sL (σ k1) * Z s - dsz R (fun r => sT (σ k1) r (co k1) * Z (sR (σ k1) r)) = sL (σ k2) * sT (σ k1) R (co k1) := by
    have g := (I k1 (by omega)).2.2.2.2.1.1 (co k1) c1
    rw [if_neg (show ¬ C ≤ sC (σ k1) (co k1) by rw [← hs]; omega), Int.sub_zero] at g
    have x1 : dsz R (fun r => sT (σ k1) r (co k1) * Z (sR (σ k1) r)) = dsz R (fun k => if C ≤ sR (σ k2) k then sL (σ k1) * D2 a R (σ k2) k s else 0) - sL (σ k2) * gSm (σ k1) R C (co k1) := by
      have y1 : dsz R (fun r => sT (σ k1) r (co k1) * Z (sR (σ k1) r)) = dsz R (fun r => dsz R (fun k => if C ≤ sR (σ k2) k then sT (σ k1) r (co k1) * D2 a R (σ k2) k (sR (σ k1) r) else 0)) - dsz R (fun r => if C ≤ sR (σ k1) r then sT (σ k1) r (co k1) else 0) * sL (σ k2) := by
        rw [← dsz_sub]
        refine dsz_congr R (fun r hr => ?_)
        rw [hZ]
        show sT (σ k1) r (co k1) * (dsz R (fun k => if C ≤ sR (σ k2) k then D2 a R (σ k2) k (sR (σ k1) r) else 0) - (if C ≤ sR (σ k1) r then sL (σ k2) else 0)) = dsz R (fun k => if C ≤ sR (σ k2) k then sT (σ k1) r (co k1) * D2 a R (σ k2) k (sR (σ k1) r) else 0) - (if C ≤ sR (σ k1) r then sT (σ k1) r (co k1) else 0) * sL (σ k2)
        rw [Int.mul_sub, ← dsz_mul]
        congr 1
        · refine dsz_congr R (fun k hk => ?_)
          show sT (σ k1) r (co k1) * (if C ≤ sR (σ k2) k then D2 a R (σ k2) k (sR (σ k1) r) else 0) = _
          by_cases f : C ≤ sR (σ k2) k
          · rw [if_pos f, if_pos f]
          · rw [if_neg f, if_neg f, Int.mul_zero]
        · by_cases f : C ≤ sR (σ k1) r
          · rw [if_pos f, if_pos f]
          · rw [if_neg f, if_neg f, Int.mul_zero, Int.zero_mul]
      rw [y1, dsz_swap]
      congr 1
      · refine dsz_congr R (fun k hk => ?_)
        by_cases f : C ≤ sR (σ k2) k
        · rw [if_pos f, hs, D2_rel (S2 := σ k2) (I k1 (by omega)) (by omega) hk]
          exact dsz_congr R (fun r _ => if_pos f)
        · rw [if_neg f]
          exact dsz_0 R (fun r _ => if_neg f)
      · unfold gSm
        rw [Int.mul_comm]
    rw [x1, ← g, hZ]
    show sL (σ k1) * (dsz R (fun k => if C ≤ sR (σ k2) k then D2 a R (σ k2) k s else 0) - (if C ≤ s then sL (σ k2) else 0)) - _ = _
    rw [if_neg (show ¬ C ≤ s by omega), Int.sub_zero, ← dsz_mul]
    have y2 : dsz R (fun i => sL (σ k1) * (if C ≤ sR (σ k2) i then D2 a R (σ k2) i s else 0)) = dsz R (fun k => if C ≤ sR (σ k2) k then sL (σ k1) * D2 a R (σ k2) k s else 0) := dsz_congr R (fun k _ => by
      by_cases f : C ≤ sR (σ k2) k
      · rw [if_pos f, if_pos f]
      · rw [if_neg f, if_neg f, Int.mul_zero])
    rw [y2]
    omega
  have pos : 0 < sL (σ k2) * sT (σ k1) R (co k1) := Int.mul_pos (I k2 (by omega)).2.1 pR1
  have Zs : sL (σ k1) * Z s ≤ 0 := by
    have := Int.mul_nonneg (show 0 ≤ sL (σ k1) by have := (I k1 (by omega)).2.1; omega) (show 0 ≤ -Z s by have := Zlow s s1 (by omega); omega)
    rw [Int.mul_neg] at this
    omega
  -- some row at k1 is of that kind
  have some_r : ∃ r, r < R ∧ sT (σ k1) r (co k1) * Z (sR (σ k1) r) < 0 := Classical.byContradiction fun z => by
    have z : ∀ r, r < R → 0 ≤ sT (σ k1) r (co k1) * Z (sR (σ k1) r) := fun r hr => Int.not_lt.mp fun w => z ⟨r, hr, w⟩
    have nn : ∀ n, n ≤ R → 0 ≤ dsz n (fun r => sT (σ k1) r (co k1) * Z (sR (σ k1) r)) := fun n => by
      induction n with
      | zero => exact fun _ => Int.le_refl _
      | succ n ih =>
        intro hn
        rw [dsz]
        have := ih (by omega)
        have := z n (by omega)
        omega
    have := nn R (Nat.le_refl _)
    omega
  obtain ⟨r, hr, neg⟩ := some_r
  obtain ⟨l, hl⟩ : ∃ l, l = sR (σ k1) r := ⟨_, rfl⟩
  rw [← hl] at neg
  have Zn : Z l ≠ 0 := fun z => by
    rw [z, Int.mul_zero] at neg
    omega
  have lout : ¬ bas R (σ k2) l := by
    rintro ⟨q, q1, q2⟩
    exact Zn (by rw [← q2]; exact Zin q q1)
  obtain ⟨lt, lC⟩ := enters l ⟨r, hr, hl.symm⟩ lout
  have lne : l ≠ t := fun z => by
    have : r = ro k1 := (I k1 (by omega)).2.2.2.1.2.2.1 r (ro k1) hr r1 (by rw [← hl, z, b3])
    have Zt : Z l = sT (σ k2) R (co k2) := by
      rw [z, ht]
      exact Zout _ c2
    rw [this, Zt] at neg
    have := Int.mul_pos p1 pR2
    omega
  have Zl := Zlow l lC (by omega)
  have tp : 0 < sT (σ k1) r (co k1) := Int.not_le.mp fun z => by
    have := Int.mul_nonneg (show 0 ≤ -sT (σ k1) r (co k1) by omega) (show 0 ≤ -Z l by omega)
    rw [Int.neg_mul_neg] at this
    omega
  -- its value is 0 there
  have vz : sT (σ k1) r C = 0 := Decidable.byContradiction fun z => by
    have n1 : nzv R C (σ k1) l := ⟨r, hr, hl.symm, z⟩
    have n2 : ¬ nzv R C (σ k2) l := fun ⟨q, q1, q2, _⟩ => lout ⟨q, q1, q2⟩
    rcases Nat.le_total k1 k2 with u | u
    · have x := nz_all h (i := k1) (l := l) (k2 - k1) (by omega) (fun k v w => dg k (by omega) (by omega))
      rw [show k1 + (k2 - k1) = k2 by omega] at x
      exact n2 (x.mpr n1)
    · have x := nz_all h (i := k2) (l := l) (k1 - k2) (by omega) (fun k v w => dg k (by omega) (by omega))
      rw [show k2 + (k1 - k2) = k1 by omega] at x
      exact n2 (x.mp n1)
  have fin := (m1 r hr tp).2 (by rw [dg k1 b1 b2, vz, Int.zero_mul, Int.zero_mul])
  rw [b3, ← hl] at fin
  omega
end
