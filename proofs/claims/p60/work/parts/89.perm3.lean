/-! THE PURE PART, permutations: all that the items lead to. -/
section
/-- the number after the item j from the number r -/
def gn (P : Nat → Nat → Nat) (s r j : Nat) : Nat := rk s (fun i => P j (dcP s r i))
theorem gn_ok {P : Nat → Nat → Nat} {s r j : Nat} (hs : s ≤ 6) (hP : isP s (P j)) (hr : r < fac s) : gn P s r j < fac s ∧ ∀ i, i < s → dcP s (gn P s r j) i = P j (dcP s r i) := rk_ok hs (isP.comp hP (dc_P hs hr))
abbrev bgT := List Nat × (Nat → Nat) × (Nat → Nat)
/-- a queue of numbers; for each number its item plus 1 (0: not reached) and the number ahead of it -/
def bg1 (r c u : Nat) (p : bgT) : bgT := if p.2.1 u = 0 ∧ p.1.length < 720 then (p.1 ++ [u], va_up p.2.1 u (c + 1), va_up p.2.2 u r) else p
def bgI (P : Nat → Nat → Nat) (s r : Nat) (p : bgT) : Nat → bgT
  | 0 => p
  | j + 1 => bg1 r (j + 1) (gn P s r (j + 1)) (bgI P s r p j)
def bgN (P : Nat → Nat → Nat) (s t : Nat) : Nat → Nat → bgT → bgT
  | 0, _, p => p
  | k + 1, i, p => if i < p.1.length then bgN P s t k (i + 1) (bgI P s (p.1.getD i 0) p t) else p
def bgA (P : Nat → Nat → Nat) (s t : Nat) : bgT := bgN P s t 721 0 ([0], fun x => if x = 0 then 1 else 0, fun _ => 0)
def bgB (P : Nat → Nat → Nat) (s t : Nat) (p : bgT) : Prop := (∀ i, i < p.1.length → p.1.getD i 0 < fac s ∧ p.2.1 (p.1.getD i 0) ≠ 0) ∧ (∀ x, p.2.1 x ≠ 0 → ∃ i, i < p.1.length ∧ p.1.getD i 0 = x) ∧ (∀ i j, i < j → j < p.1.length → p.1.getD i 0 ≠ p.1.getD j 0) ∧ ((0 < p.1.length ∧ p.1.getD 0 0 = 0 ∧ p.2.1 0 = 1) ∧ ∀ j, 0 < j → j < p.1.length → ∃ i, i < j ∧ p.2.2 (p.1.getD j 0) = p.1.getD i 0 ∧ ∃ c, 1 ≤ c ∧ c ≤ t ∧ p.2.1 (p.1.getD j 0) = c + 1 ∧ p.1.getD j 0 = gn P s (p.1.getD i 0) c) ∧ ∀ x, p.2.1 x ≤ t + 1
theorem bgB_le {P : Nat → Nat → Nat} {s t : Nat} {p : bgT} (h : bgB P s t p) : p.1.length ≤ fac s := by
  obtain ⟨h1, h2, h3, h4, h5⟩ := h
  have c1 := cnt_inj (X := fun _ => true) (f := fun i => p.1.getD i 0) (m := fac s) p.1.length (Y := fun x => decide (p.2.1 x ≠ 0)) (fun i hi _ => ⟨(h1 i hi).1, decide_eq_true (h1 i hi).2⟩) (fun i j hi hj _ _ e => by
    rcases Nat.lt_trichotomy i j with z | z | z
    · exact absurd e (h3 i j z hj)
    · exact z
    · exact absurd e.symm (h3 j i z hi))
  have c2 : ∀ (Y : Nat → Bool) n, cnt Y n ≤ n := fun Y n => by
    induction n with
    | zero => exact Nat.le_refl _
    | succ n ih =>
      rw [cnt]
      by_cases z : Y n = true
      · rw [if_pos z]
        omega
      · rw [if_neg z]
        omega
  have c3 : ∀ n, cnt (fun _ => true) n = n := fun n => by
    induction n with
    | zero => rfl
    | succ n ih => rw [cnt, ih, if_pos rfl]
  have := c2 (fun x => decide (p.2.1 x ≠ 0)) (fac s)
  rw [c3] at c1
  omega
theorem bgB_len {P : Nat → Nat → Nat} {s t u : Nat} {p : bgT} (hs : s ≤ 6) (h : bgB P s t p) (hu : u < fac s) (h0 : p.2.1 u = 0) : p.1.length < 720 := by
  have fb := (fac_b s (by omega)).1
  obtain ⟨h1, h2, h3, h4, h5⟩ := h
  have c1 := cnt_inj (X := fun _ => true) (f := fun i => p.1.getD i 0) (m := fac s) p.1.length (Y := fun x => decide (p.2.1 x ≠ 0)) (fun i hi _ => ⟨(h1 i hi).1, decide_eq_true (h1 i hi).2⟩) (fun i j hi hj _ _ e => by
    rcases Nat.lt_trichotomy i j with z | z | z
    · exact absurd e (h3 i j z hj)
    · exact z
    · exact absurd e.symm (h3 j i z hi))
  have c2 := cnt_lt (X := fun x => decide (p.2.1 x ≠ 0)) (Y := fun _ => true) (n := fac s) (fun _ _ _ => rfl) hu (decide_eq_false (fun z => z h0)) rfl
  have c3 : ∀ n, cnt (fun _ => true) n = n := fun n => by
    induction n with
    | zero => rfl
    | succ n ih => rw [cnt, ih, if_pos rfl]
  rw [c3] at c1 c2
  omega
theorem bg1_ok {P : Nat → Nat → Nat} {s t iy c : Nat} {p : bgT} (hs : s ≤ 6) (h : bgB P s t p) (hi : iy < p.1.length) (hc1 : 1 ≤ c) (hc2 : c ≤ t) (hP : isP s (P c)) : bgB P s t (bg1 (p.1.getD iy 0) c (gn P s (p.1.getD iy 0) c) p) ∧ (bg1 (p.1.getD iy 0) c (gn P s (p.1.getD iy 0) c) p).2.1 (gn P s (p.1.getD iy 0) c) ≠ 0 ∧ (∀ x, p.2.1 x ≠ 0 → (bg1 (p.1.getD iy 0) c (gn P s (p.1.getD iy 0) c) p).2.1 x = p.2.1 x) ∧ p.1.length ≤ (bg1 (p.1.getD iy 0) c (gn P s (p.1.getD iy 0) c) p).1.length ∧ (∀ i, i < p.1.length → (bg1 (p.1.getD iy 0) c (gn P s (p.1.getD iy 0) c) p).1.getD i 0 = p.1.getD i 0) := by
  obtain ⟨y1, y2⟩ := h.1 iy hi
  obtain ⟨u1, u2⟩ := gn_ok hs hP y1
  generalize hy : p.1.getD iy 0 = y at *
  generalize hu : gn P s y c = u at *
  unfold bg1
  by_cases cz : p.2.1 u = 0
  · have len := bgB_len hs h u1 cz
    rw [if_pos ⟨cz, len⟩]
    obtain ⟨h1, h2, h3, h4, h5⟩ := h
    have at1 : ∀ i, i < p.1.length → (p.1 ++ [u]).getD i 0 = p.1.getD i 0 := fun i hi => by rw [getDN_snoc, if_pos hi]
    have at2 : (p.1 ++ [u]).getD p.1.length 0 = u := by rw [getDN_snoc, if_neg (Nat.lt_irrefl _), if_pos rfl]
    have ln : (p.1 ++ [u]).length = p.1.length + 1 := by rw [List.length_append]; rfl
    have ne : ∀ x, p.2.1 x ≠ 0 → x ≠ u := fun x hx e => hx (by rw [e]; exact cz)
    have up : ∀ x, x ≠ u → va_up p.2.1 u (c + 1) x = p.2.1 x := fun x hx => mUp_ne _ _ hx
    have up2 : ∀ x, x ≠ u → va_up p.2.2 u y x = p.2.2 x := fun x hx => mUp_ne _ _ hx
    refine ⟨⟨fun i hi => ?_, fun x hx => ?_, fun i j hij hj => ?_, ⟨⟨?_, ?_, ?_⟩, fun j hj0 hj => ?_⟩, fun x => ?_⟩, ?_, fun x hx => up x (ne x hx), by show p.1.length ≤ (p.1 ++ [u]).length; omega, at1⟩
    · have hi : i < (p.1 ++ [u]).length := hi
      show (p.1 ++ [u]).getD i 0 < fac s ∧ va_up p.2.1 u (c + 1) ((p.1 ++ [u]).getD i 0) ≠ 0
      by_cases z : i < p.1.length
      · rw [at1 i z]
        obtain ⟨a2, a3⟩ := h1 i z
        rw [up _ (ne _ a3)]
        exact ⟨a2, a3⟩
      · have : i = p.1.length := by omega
        rw [this, at2, mUp_eq]
        exact ⟨u1, Nat.succ_ne_zero _⟩
    · have hx : va_up p.2.1 u (c + 1) x ≠ 0 := hx
      by_cases z : x = u
      · exact ⟨p.1.length, by show _ < (p.1 ++ [u]).length; omega, by rw [z]; exact at2⟩
      · rw [up x z] at hx
        obtain ⟨i, i1, i2⟩ := h2 x hx
        exact ⟨i, by show _ < (p.1 ++ [u]).length; omega, (at1 i i1).trans i2⟩
    · have hj : j < (p.1 ++ [u]).length := hj
      show (p.1 ++ [u]).getD i 0 ≠ (p.1 ++ [u]).getD j 0
      rw [at1 i (by omega)]
      by_cases z : j < p.1.length
      · rw [at1 j z]
        exact h3 i j hij z
      · have : j = p.1.length := by omega
        rw [this, at2]
        exact ne _ (h1 i (by omega)).2
    · show 0 < (p.1 ++ [u]).length
      omega
    · exact (at1 0 h4.1.1).trans h4.1.2.1
    · show va_up p.2.1 u (c + 1) 0 = 1
      rw [up 0 (ne 0 (by rw [h4.1.2.2]; decide))]
      exact h4.1.2.2
    · have hj : j < (p.1 ++ [u]).length := hj
      show ∃ i, i < j ∧ va_up p.2.2 u y ((p.1 ++ [u]).getD j 0) = (p.1 ++ [u]).getD i 0 ∧ ∃ d, 1 ≤ d ∧ d ≤ t ∧ va_up p.2.1 u (c + 1) ((p.1 ++ [u]).getD j 0) = d + 1 ∧ (p.1 ++ [u]).getD j 0 = gn P s ((p.1 ++ [u]).getD i 0) d
      by_cases z : j < p.1.length
      · obtain ⟨i, i1, i2, d, d1, d2, d3, d4⟩ := h4.2 j hj0 z
        rw [at1 j z]
        have nj := ne _ (h1 j z).2
        refine ⟨i, i1, ?_, d, d1, d2, ?_, ?_⟩
        · rw [up2 _ nj, at1 i (by omega)]
          exact i2
        · rw [up _ nj]
          exact d3
        · rw [at1 i (by omega)]
          exact d4
      · have : j = p.1.length := by omega
        refine ⟨iy, by omega, ?_, c, hc1, hc2, ?_, ?_⟩
        · rw [this, at2, mUp_eq, at1 iy hi, hy]
        · rw [this, at2, mUp_eq]
        · rw [this, at2, at1 iy hi, hy, hu]
    · show va_up p.2.1 u (c + 1) x ≤ t + 1
      by_cases z : x = u
      · rw [z, mUp_eq]
        omega
      · rw [up x z]
        exact h5 x
    · show va_up p.2.1 u (c + 1) u ≠ 0
      rw [mUp_eq]
      exact Nat.succ_ne_zero _
  · rw [if_neg (fun z => cz z.1)]
    exact ⟨h, cz, fun _ _ => rfl, Nat.le_refl _, fun _ _ => rfl⟩
theorem bgI_ok {P : Nat → Nat → Nat} {s t iy : Nat} {p : bgT} (hs : s ≤ 6) (h : bgB P s t p) (hi : iy < p.1.length) (hP : ∀ c, 1 ≤ c → c ≤ t → isP s (P c)) : ∀ j, j ≤ t → bgB P s t (bgI P s (p.1.getD iy 0) p j) ∧ (∀ c, 1 ≤ c → c ≤ j → (bgI P s (p.1.getD iy 0) p j).2.1 (gn P s (p.1.getD iy 0) c) ≠ 0) ∧ (∀ x, p.2.1 x ≠ 0 → (bgI P s (p.1.getD iy 0) p j).2.1 x = p.2.1 x) ∧ p.1.length ≤ (bgI P s (p.1.getD iy 0) p j).1.length ∧ (∀ i, i < p.1.length → (bgI P s (p.1.getD iy 0) p j).1.getD i 0 = p.1.getD i 0)
  | 0, _ => ⟨h, fun c h1 h2 => by omega, fun _ _ => rfl, Nat.le_refl _, fun _ _ => rfl⟩
  | j + 1, hj => by
    obtain ⟨a1, a2, a3, a4, a5⟩ := bgI_ok hs h hi hP j (by omega)
    obtain ⟨b1, b2, b3, b4, b5⟩ := bg1_ok (iy := iy) (c := j + 1) hs a1 (by omega) (by omega) hj (hP (j + 1) (by omega) hj)
    rw [a5 iy hi] at b1 b2 b3 b4 b5
    rw [bgI]
    refine ⟨b1, fun c h1 h2 => ?_, fun x hx => ?_, by omega, fun i hi => ?_⟩
    · by_cases z : c = j + 1
      · rw [z]
        exact b2
      · have := a2 c h1 (by omega)
        rw [b3 _ this]
        exact this
    · rw [b3 x (by rw [a3 x hx]; exact hx), a3 x hx]
    · rw [b5 i (by omega), a5 i hi]
/-- all of the queue's first i have gone on -/
def bgC (P : Nat → Nat → Nat) (s t i : Nat) (p : bgT) : Prop := ∀ j c, j < i → 1 ≤ c → c ≤ t → p.2.1 (gn P s (p.1.getD j 0) c) ≠ 0
theorem bgN_ok {P : Nat → Nat → Nat} {s t : Nat} (hs : s ≤ 6) (hP : ∀ c, 1 ≤ c → c ≤ t → isP s (P c)) : ∀ k i p, bgB P s t p → bgC P s t i p → i ≤ p.1.length → 721 ≤ i + k → bgB P s t (bgN P s t k i p) ∧ bgC P s t (bgN P s t k i p).1.length (bgN P s t k i p) := by
  intro k
  induction k with
  | zero =>
    intro i p h hc hi hk
    have := bgB_le h
    have := (fac_b s (by omega)).1
    omega
  | succ k ih =>
    intro i p h hc hi hk
    rw [bgN]
    by_cases z : i < p.1.length
    · rw [if_pos z]
      obtain ⟨a1, a2, a3, a4, a5⟩ := bgI_ok hs h z hP t (Nat.le_refl _)
      refine ih (i + 1) _ a1 (fun j c hj h1 h2 => ?_) (by omega) (by omega)
      by_cases e : j = i
      · rw [e, a5 i z]
        exact a2 c h1 h2
      · rw [a5 j (by omega)]
        have := hc j c (by omega) h1 h2
        rw [a3 _ this]
        exact this
    · rw [if_neg z]
      have : i = p.1.length := by omega
      rw [← this]
      exact ⟨h, hc⟩
theorem bg_0 {P : Nat → Nat → Nat} {s t : Nat} (hs : s ≤ 6) : bgB P s t ([0], fun x => if x = 0 then 1 else 0, fun _ => 0) := by
  have fb := (fac_b s (by omega)).2
  refine ⟨fun i hi => ?_, fun x hx => ?_, fun i j hij hj => ?_, ⟨⟨Nat.zero_lt_one, rfl, rfl⟩, fun j h1 h2 => ?_⟩, fun x => ?_⟩
  · have : i = 0 := by
      have hi : i < 1 := hi
      omega
    subst this
    exact ⟨fb, by show (if 0 = 0 then 1 else 0) ≠ 0; rw [if_pos rfl]; decide⟩
  · have hx : (if x = 0 then 1 else 0) ≠ 0 := hx
    by_cases z : x = 0
    · exact ⟨0, Nat.zero_lt_one, z.symm⟩
    · rw [if_neg z] at hx
      exact absurd rfl hx
  · have hj : j < 1 := hj
    omega
  · have h2 : j < 1 := h2
    omega
  · show (if x = 0 then 1 else 0) ≤ t + 1
    by_cases z : x = 0
    · rw [if_pos z]
      omega
    · rw [if_neg z]
      omega
theorem bgA_ok {P : Nat → Nat → Nat} {s t : Nat} (hs : s ≤ 6) (hP : ∀ c, 1 ≤ c → c ≤ t → isP s (P c)) : bgB P s t (bgA P s t) ∧ ∀ x c, (bgA P s t).2.1 x ≠ 0 → 1 ≤ c → c ≤ t → (bgA P s t).2.1 (gn P s x c) ≠ 0 := by
  obtain ⟨a, b⟩ := bgN_ok hs hP 721 0 _ (bg_0 hs) (fun j c hj => absurd hj (Nat.not_lt_zero _)) (Nat.zero_le _) (by omega)
  refine ⟨a, fun x c hx h1 h2 => ?_⟩
  obtain ⟨i, i1, i2⟩ := a.2.1 x hx
  have := b i c i1 h1 h2
  rw [i2] at this
  exact this
/-- the cells: the queue, the items, the numbers ahead -/
def bgS (V : mV) (p : bgT) : Prop := (∀ i, i < p.1.length → V.rI 79 i = nI (p.1.getD i 0)) ∧ (∀ x, x < 720 → V.rI 81 x = nI (p.2.1 x) - 1) ∧ ∀ x, x < 720 → p.2.1 x ≠ 0 → x ≠ 0 → V.rI 80 x = nI (p.2.2 x)
theorem lu_lt {lu j : Nat} (hl : lu < 2 ^ 20) (hj : j + 1 < 2 ^ 20) : nI lu - 1 < nI (j + 1) ↔ lu - 1 ≤ j := by
  rw [nI_hi (by omega) (by omega)]
  omega
theorem T_reachAll_go {F s lu : Nat} {P : Nat → Nat → Nat} {G : Nat → Nat} (hF : 128 ≤ F) (h0 : 0 < s) (hs : s ≤ 6) (hlu : lu ≤ 5) (hP : ∀ c, c < lu → isP s (P c)) : ∀ k', (∀ k i p (V : mV), k * 100 + 1 ≤ k' → bgB P s (lu - 1) p → i ≤ p.1.length → 721 ≤ i + k → pmS V s lu P G → bgS V p → mTo (mX10_reachAll_go F k' 0 (nI p.1.length) (nI i) 0 0 V) (fun q => q.1 = nI (bgN P s (lu - 1) k i p).1.length ∧ bgS q.2 (bgN P s (lu - 1) k i p) ∧ pmS q.2 s lu P G)) ∧ (∀ k i j p (V : mV), k * 100 + (lu - 1 - j) * 10 + 3 ≤ k' → bgB P s (lu - 1) p → i < p.1.length → 720 ≤ i + k → j ≤ lu - 1 → pmS V s lu P G → rowP V 77 s (dcP s (p.1.getD i 0)) → bgS V (bgI P s (p.1.getD i 0) p j) → mTo (mX10_reachAll_go F k' 1 (nI (bgI P s (p.1.getD i 0) p j).1.length) (nI i) (nI (j + 1)) 0 V) (fun q => q.1 = nI (bgN P s (lu - 1) k (i + 1) (bgI P s (p.1.getD i 0) p (lu - 1))).1.length ∧ bgS q.2 (bgN P s (lu - 1) k (i + 1) (bgI P s (p.1.getD i 0) p (lu - 1))) ∧ pmS q.2 s lu P G)) ∧ (∀ k i j c p (V : mV), k * 100 + (lu - 1 - j - 1) * 10 + (s - c) + 4 ≤ k' → bgB P s (lu - 1) p → i < p.1.length → 720 ≤ i + k → j < lu - 1 → c ≤ s → pmS V s lu P G → rowP V 77 s (dcP s (p.1.getD i 0)) → rowP V 78 c (fun x => P (j + 1) (dcP s (p.1.getD i 0) x)) → bgS V (bgI P s (p.1.getD i 0) p j) → mTo (mX10_reachAll_go F k' 2 (nI (bgI P s (p.1.getD i 0) p j).1.length) (nI i) (nI (j + 1)) (nI c) V) (fun q => q.1 = nI (bgN P s (lu - 1) k (i + 1) (bgI P s (p.1.getD i 0) p (lu - 1))).1.length ∧ bgS q.2 (bgN P s (lu - 1) k (i + 1) (bgI P s (p.1.getD i 0) p (lu - 1))) ∧ pmS q.2 s lu P G)) := by
  have fb := (fac_b s (by omega)).1
  have full : ∀ p, bgB P s (lu - 1) p → p.1.length ≤ 720 := fun p h => by
    have := bgB_le h
    omega
  intro k'
  induction k' with
  | zero => exact ⟨fun k i p V h => by omega, fun k i j p V h => by omega, fun k i j c p V h => by omega⟩
  | succ x ih =>
    obtain ⟨ih0, ih1, ih2⟩ := ih
    refine ⟨fun k i p V h1 hB hi hk hM hS => ?_, fun k i j p V h1 hB hi hk hj hM hR hS => ?_, fun k i j c p V h1 hB hi hk hj hc hM hR hQ hS => ?_⟩
    · have len := full p hB
      rw [mX10_reachAll_go, if_pos rfl]
      unfold mX10_reachAll_b0
      obtain ⟨k, rfl⟩ : ∃ y, k = y + 1 := ⟨k - 1, by omega⟩
      rw [bgN]
      refine mTo.le rfl rfl (by omega) (by omega) (fun h => mTo.ret ?_) (fun h => mTo.ix rfl (by omega) (by omega) ?_)
      · rw [if_neg (by omega)]
        exact ⟨rfl, hS, hM⟩
      · rw [if_pos h, show V.rI 79 (nI i).toNatClampNeg = nI (p.1.getD i 0) by rw [nI_clamp (by omega)]; exact hS.1 i h]
        obtain ⟨x1, x2⟩ := hB.1 i h
        refine mTo.W (T_writePoints (F := F) (a := 77) hF rfl (by decide) h0 hs (by omega) hM.1) (fun a V1 _ q => ?_)
        obtain ⟨q1, q2⟩ := q
        have q2 : mAv (wX10_writePoints 77) V V1 := q2
        exact ih1 k i 0 p V1 (by omega) hB h (by omega) (Nat.zero_le _) ⟨by rw [(q2.1 7 (by unfold wX10_writePoints; omega)).1]; exact hM.1, by rw [(q2.1 7 (by unfold wX10_writePoints; omega)).1]; exact hM.2.1, fun t ht y hy => by rw [(q2.1 (71 + t) (by unfold wX10_writePoints; omega)).2.2.1]; exact hM.2.2.1 t ht y hy, fun y hy => by rw [(q2.1 76 (by unfold wX10_writePoints; omega)).2.2.1]; exact hM.2.2.2 y hy⟩ q1 ⟨fun t ht => by rw [(q2.1 79 (by unfold wX10_writePoints; omega)).2.2.1]; exact hS.1 t ht, fun y hy => by rw [(q2.1 81 (by unfold wX10_writePoints; omega)).2.2.1]; exact hS.2.1 y hy, fun y hy h1 h2 => by rw [(q2.1 80 (by unfold wX10_writePoints; omega)).2.2.1]; exact hS.2.2 y hy h1 h2⟩
    · rw [mX10_reachAll_go, if_neg (by decide), if_pos rfl]
      unfold mX10_reachAll_b1
      obtain ⟨a1, a2, a3, a4, a5⟩ := bgI_ok hs hB hi (fun c _ h2 => hP c (by omega)) j hj
      rw [hM.2.1]
      refine mTo.ite (fun h => mTo.lt ?_) (fun h => ?_)
      · have h := (lu_lt (by omega) (by omega)).mp h
        have : j = lu - 1 := by omega
        subst this
        rw [nI_1]
        exact ih0 k (i + 1) _ V (by omega) a1 (by omega) (by omega) hM hS
      · have h : j < lu - 1 := Nat.lt_of_not_le fun z => h ((lu_lt (by omega) (by omega)).mpr z)
        exact ih2 k i j 0 p V (by omega) hB hi hk h (Nat.zero_le _) hM hR (fun y hy => absurd hy (Nat.not_lt_zero _)) hS
    · rw [mX10_reachAll_go, if_neg (by decide), if_neg (by decide), if_pos rfl]
      unfold mX10_reachAll_b2
      obtain ⟨a1, a2, a3, a4, a5⟩ := bgI_ok hs hB hi (fun c _ h2 => hP c (by omega)) j (by omega)
      obtain ⟨x1, x2⟩ := hB.1 i hi
      obtain ⟨u1, u2⟩ := gn_ok (j := j + 1) hs (hP (j + 1) (by omega)) x1
      have len := full _ a1
      have dP := dc_P hs x1
      have pP := hP (j + 1) (by omega)
      have g := ih1 k i (j + 1) p
      rw [bgI] at g
      generalize hr : p.1.getD i 0 = r at *
      generalize hp' : bgI P s r p j = p' at *
      refine mTo.le hM.1 rfl (by omega) (by omega) (fun z => ?_) (fun z => ?_)
      · have : c = s := by omega
        subst this
        have lx := a1.2.2.2.2 (gn P c r (j + 1))
        have cu : (nI (gn P c r (j + 1))).toNatClampNeg = gn P c r (j + 1) := nI_clamp (by omega)
        refine mTo.so (T_rankOf (F := F) (p := fun x => P (j + 1) (dcP c r x)) hF rfl hs hM.1 (fun y hy => by have := pP.1 _ (dP.1 y hy); show P (j + 1) (dcP c r y) < 2 ^ 20; omega) hQ) ?_
        have er : rk c (fun x => P (j + 1) (dcP c r x)) = gn P c r (j + 1) := rfl
        rw [er]
        generalize hu : gn P c r (j + 1) = u at *
        refine mTo.ix rfl (by omega) (by omega) ?_
        rw [show V.rI 81 (nI u).toNatClampNeg = nI (p'.2.1 u) - 1 by rw [cu]; exact hS.2.1 u (by omega)]
        unfold bg1 at g
        by_cases cz : p'.2.1 u = 0
        · have len2 := bgB_len hs a1 u1 cz
          rw [if_neg (fun z => (nI_m1_neg (by omega)).mp z cz)]
          rw [if_pos ⟨cz, len2⟩] at g
          refine mTo.le (a := 720) rfl rfl (by omega) (by omega) (fun z => by omega) (fun _ => mTo.ix rfl (by omega) (by omega) (mTo.lt (mTo.ix rfl (by omega) (by omega) (mTo.ix rfl (by omega) (by omega) (mTo.lt (mTo.ix rfl (by omega) (by omega) (mTo.lt (mTo.lt (mTo.lt ?_)))))))))
          have ci : (nI i).toNatClampNeg = i := nI_clamp (by omega)
          have v79 : (mI V 81 (nI u) (nI (j + 1))).rI 79 (nI i).toNatClampNeg = nI r := by rw [mI_no (by decide), ci, hS.1 i (by omega), a5 i hi]; exact congrArg nI hr
          rw [v79, nI_1, nI_1]
          have gl : p'.1.length + 1 = (p'.1 ++ [u]).length := by rw [List.length_append]; rfl
          rw [gl]
          refine g _ (by omega) hB hi hk (by omega) ⟨hM.1, hM.2.1, fun t ht y hy => by rw [mI_no (by omega), mI_no (by omega), mI_no (by omega)]; exact hM.2.2.1 t ht y hy, fun y hy => by rw [mI_no (by omega), mI_no (by omega), mI_no (by omega)]; exact hM.2.2.2 y hy⟩ (fun y hy => by rw [mI_no (by omega), mI_no (by omega), mI_no (by omega)]; exact hR y hy) ⟨fun t ht => ?_, fun y hy => ?_, fun y hy h3 h4 => ?_⟩
          · have ht : t < (p'.1 ++ [u]).length := ht
            rw [← gl] at ht
            show (mI (mI (mI V 81 (nI u) (nI (j + 1))) 80 (nI u) (nI r)) 79 (nI p'.1.length) (nI u)).rI 79 t = nI ((p'.1 ++ [u]).getD t 0)
            rw [mI_at (nI_clamp (by omega)), getDN_snoc, mI_no (by decide), mI_no (by decide)]
            by_cases z : t = p'.1.length
            · rw [if_pos z, if_neg (by omega), if_pos z]
            · rw [if_neg z, if_pos (by omega), hS.1 t (by omega)]
          · show (mI (mI (mI V 81 (nI u) (nI (j + 1))) 80 (nI u) (nI r)) 79 (nI p'.1.length) (nI u)).rI 81 y = nI (va_up p'.2.1 u (j + 1 + 1) y) - 1
            rw [mI_no (by decide), mI_no (by decide), mI_at cu]
            by_cases z : y = u
            · rw [if_pos z, z, mUp_eq, nI_pred]
            · rw [if_neg z, mUp_ne _ _ z, hS.2.1 y hy]
          · show (mI (mI (mI V 81 (nI u) (nI (j + 1))) 80 (nI u) (nI r)) 79 (nI p'.1.length) (nI u)).rI 80 y = nI (va_up p'.2.2 u r y)
            have h3 : va_up p'.2.1 u (j + 1 + 1) y ≠ 0 := h3
            rw [mI_no (by decide), mI_at cu]
            by_cases z : y = u
            · rw [if_pos z, z, mUp_eq]
            · rw [mUp_ne _ _ z] at h3
              rw [if_neg z, mUp_ne _ _ z, mI_no (by decide), hS.2.2 y hy h3 h4]
        · rw [if_pos ((nI_m1_neg (by omega)).mpr cz)]
          rw [if_neg (fun z => cz z.1)] at g
          refine mTo.lt ?_
          rw [nI_1]
          exact g V (by omega) hB hi hk (by omega) hM hR hS
      · have cc : (nI c).toNatClampNeg = c := nI_clamp (by omega)
        have dc := dP.1 c z
        refine mTo.ix rfl (by omega) (by omega) (mTo.ix rfl (by omega) (by omega) ?_)
        have v77 : V.rI 77 (nI c).toNatClampNeg = nI (dcP s r c) := by rw [cc]; exact hR c z
        rw [v77]
        refine mTo.ix rfl (by omega) (by omega) (mTo.ix rfl (by omega) (by omega) (mTo.lt (mTo.lt ?_)))
        rw [nI_1, show V.rI (71 + (nI (j + 1)).toNatClampNeg) (nI (dcP s r c)).toNatClampNeg = nI (P (j + 1) (dcP s r c)) by rw [nI_clamp (by omega), nI_clamp (by omega)]; exact hM.2.2.1 (j + 1) (by omega) _ dc]
        have g2 := ih2 k i j (c + 1) p
        rw [hr, hp'] at g2
        refine g2 _ (by omega) hB hi hk hj (by omega) ⟨hM.1, hM.2.1, fun t ht y hy => by rw [mI_no (by omega)]; exact hM.2.2.1 t ht y hy, fun y hy => by rw [mI_no (by omega)]; exact hM.2.2.2 y hy⟩ (fun y hy => by rw [mI_no (by omega)]; exact hR y hy) (fun y hy => ?_) ⟨fun t ht => by rw [mI_no (by omega)]; exact hS.1 t ht, fun y hy => by rw [mI_no (by omega)]; exact hS.2.1 y hy, fun y hy h3 h4 => by rw [mI_no (by omega)]; exact hS.2.2 y hy h3 h4⟩
        rw [mI_at cc]
        by_cases w : y = c
        · rw [if_pos w, w]
        · rw [if_neg w]
          exact hQ y (by omega)
theorem T_reachAll {F e s m b : Nat} {P : Nat → Nat → Nat} {d : Nat → Int32} {V : mV} (hF : 2 ^ 22 ≤ F) (he : 256 ≤ e) (h0 : 0 < s) (hs : s ≤ 6) (hm : m ≤ 5) (hb : b < 2 ^ 20) (hd : qG d m s P) (hq : enQ V e s m (nI b) d) : mTo (mX10_reachAll F e V) (fun q => q.1 = nI (bgA P s (luN m b - 1)).1.length ∧ bgS q.2 (bgA P s (luN m b - 1)) ∧ pmS q.2 s (luN m b) P (goalP m P) ∧ mAv (wX10_reachAll e) V q.2) := by
  have lm : luN m b ≤ m := by
    unfold luN
    by_cases z : m < b + 1
    · rw [if_pos z]
      omega
    · rw [if_neg z]
      omega
  have main : mTo (mX10_reachAll F e V) (fun q => q.1 = nI (bgA P s (luN m b - 1)).1.length ∧ bgS q.2 (bgA P s (luN m b - 1)) ∧ pmS q.2 s (luN m b) P (goalP m P)) := by
    unfold mX10_reachAll mX10_reachAll_s
    refine mTo.W (T_loadItems (F := F) (by omega) he hs hm hb hd hq) (fun a V0 _ qf => ?_)
    obtain ⟨hM, _⟩ := qf
    have hM : pmS V0 s (luN m b) P (goalP m P) := hM
    refine mTo.W (T_fill (F := F) (a := 81) (N := 720) (by omega) rfl (by omega)) (fun a V1 _ qf => ?_)
    obtain ⟨z0, qb⟩ := qf
    have z0 : ∀ i, i < 720 → V1.rI 81 i = -1 := z0
    have qb : mAv (wJ7_fill_53178 81) V0 V1 := qb
    refine mTo.ix (c := 0) rfl (by omega) (by omega) (mTo.lt (mTo.ix (c := 0) rfl (by omega) (by omega) (mTo.lt ?_)))
    refine (T_reachAll_go (F := F) (by omega) h0 hs (show luN m b ≤ 5 by omega) (fun c hc => (hd c (by omega)).2.1) F).1 721 0 ([0], fun x => if x = 0 then 1 else 0, fun _ => 0) _ (by omega) (bg_0 hs) (Nat.zero_le _) (by omega) ⟨?_, ?_, fun t ht y hy => ?_, fun y hy => ?_⟩ ⟨fun i hi => ?_, fun x hx => ?_, fun x hx h1 h2 => ?_⟩
    · show V1.fI 7 10 = nI s
      rw [(qb.1 7 (by unfold wJ7_fill_53178; omega)).1]
      exact hM.1
    · show V1.fI 7 11 = nI (luN m b) - 1
      rw [(qb.1 7 (by unfold wJ7_fill_53178; omega)).1]
      exact hM.2.1
    · rw [mI_no (by omega), mI_no (by omega), (qb.1 (71 + t) (by unfold wJ7_fill_53178; omega)).2.2.1]
      exact hM.2.2.1 t ht y hy
    · rw [mI_no (by omega), mI_no (by omega), (qb.1 76 (by unfold wJ7_fill_53178; omega)).2.2.1]
      exact hM.2.2.2 y hy
    · have hi : i < 1 := hi
      have : i = 0 := by omega
      subst this
      rw [mI_no (by decide), mI_at (j := 0) (by decide), if_pos rfl]
      rfl
    · rw [mI_at (j := 0) (by decide)]
      show (if x = 0 then (0 : Int32) else _) = nI (if x = 0 then 1 else 0) - 1
      by_cases z : x = 0
      · rw [if_pos z, if_pos z]
        decide
      · rw [if_neg z, if_neg z, mI_no (by decide), z0 x hx]
        decide
    · have h1 : (if x = 0 then 1 else 0) ≠ 0 := h1
      rw [if_neg h2] at h1
      exact absurd rfl h1
  obtain ⟨p, e1, q1, q2, q3⟩ := main
  exact ⟨p, e1, q1, q2, q3, NX10_reachAll (v := p.1) e1⟩
end
