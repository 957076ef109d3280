/-! THE PURE PART, words: the steps from a word to all that can be reached. -/
section
/-- a queue of words, and for each word its steps plus 1 (0: not reached) -/
def bf1 (c u : Nat) (p : List Nat × (Nat → Nat)) : List Nat × (Nat → Nat) := if p.2 u = 0 ∧ p.1.length < 256 then (p.1 ++ [u], va_up p.2 u (c + 1)) else p
def bfI (l : List Nat) (c : Nat) (p : List Nat × (Nat → Nat)) : Nat → List Nat × (Nat → Nat)
  | 0 => p
  | j + 1 => bf1 c (l.getD j 0) (bfI l c p j)
def bfN (nx : Nat → List Nat) : Nat → Nat → List Nat × (Nat → Nat) → List Nat × (Nat → Nat)
  | 0, _, p => p
  | k + 1, i, p => if i < p.1.length then bfN nx k (i + 1) (bfI (nx (p.1.getD i 0)) (p.2 (p.1.getD i 0)) p (nx (p.1.getD i 0)).length) else p
def bfA (nx : Nat → List Nat) (st : Nat) : List Nat × (Nat → Nat) := bfN nx 257 0 ([st], fun x => if x = st then 1 else 0)
def bfB (A B : Nat → Nat) (b m st : Nat) (p : List Nat × (Nat → Nat)) : Prop := (∀ i, i < p.1.length → 0 < p.1.getD i 0 ∧ p.1.getD i 0 < 2 ^ (b + 1) ∧ p.2 (p.1.getD i 0) ≠ 0) ∧ (∀ x, p.2 x ≠ 0 → ∃ i, i < p.1.length ∧ p.1.getD i 0 = x) ∧ (∀ i j, i < j → j < p.1.length → p.1.getD i 0 ≠ p.1.getD j 0) ∧ (p.2 st = 1 ∧ ∀ x, p.2 x ≠ 0 → x ≠ st → ∃ y, p.2 y ≠ 0 ∧ stp A B b m y x ∧ p.2 x = p.2 y + 1) ∧ ∀ x, p.2 x ≤ p.1.length
theorem bfB_len {A B : Nat → Nat} {b m st u : Nat} {p : List Nat × (Nat → Nat)} (hb : b ≤ 7) (h : bfB A B b m st p) (hu : u < 256) (h0 : p.2 u = 0) : p.1.length < 256 := by
  obtain ⟨h1, h2, h3, h4, h5⟩ := h
  have p8 : (2 : Nat) ^ (b + 1) ≤ 2 ^ 8 := Nat.pow_le_pow_right (by decide) (by omega)
  have c1 := cnt_inj (X := fun _ => true) (f := fun i => p.1.getD i 0) (m := 256) p.1.length (Y := fun x => decide (p.2 x ≠ 0)) (fun i hi _ => ⟨by have := (h1 i hi).2.1; show p.1.getD i 0 < 256; omega, decide_eq_true (h1 i hi).2.2⟩) (fun i j hi hj _ _ e => by
    rcases Nat.lt_trichotomy i j with z | z | z
    · exact absurd e (h3 i j z hj)
    · exact z
    · exact absurd e.symm (h3 j i z hi))
  have c2 := cnt_lt (X := fun x => decide (p.2 x ≠ 0)) (Y := fun _ => true) (n := 256) (fun _ _ _ => rfl) hu (decide_eq_false (fun z => z h0)) rfl
  have c3 : ∀ n, cnt (fun _ => true) n = n := fun n => by
    induction n with
    | zero => rfl
    | succ n ih => rw [cnt, ih, if_pos rfl]
  rw [c3] at c1 c2
  omega
theorem bf1_ok {A B : Nat → Nat} {b m st u y : Nat} {d : Nat → Int32} {p : List Nat × (Nat → Nat)} (hq : qW d m A B) (hb : b ≤ 7) (h : bfB A B b m st p) (hy : p.2 y ≠ 0) (hs : stp A B b m y u) : bfB A B b m st (bf1 (p.2 y) u p) ∧ (bf1 (p.2 y) u p).2 u ≠ 0 ∧ (∀ x, p.2 x ≠ 0 → (bf1 (p.2 y) u p).2 x = p.2 x) ∧ p.1.length ≤ (bf1 (p.2 y) u p).1.length ∧ (∀ i, i < p.1.length → (bf1 (p.2 y) u p).1.getD i 0 = p.1.getD i 0) := by
  have p8 : (2 : Nat) ^ (b + 1) ≤ 2 ^ 8 := Nat.pow_le_pow_right (by decide) (by omega)
  obtain ⟨u0, u1⟩ := stp_b hq hs
  unfold bf1
  by_cases c : p.2 u = 0
  · have len := bfB_len hb h (show u < 256 by omega) c
    rw [if_pos ⟨c, len⟩]
    obtain ⟨h1, h2, h3, h4, h5⟩ := h
    have at1 : ∀ i, i < p.1.length → (p.1 ++ [u]).getD i 0 = p.1.getD i 0 := fun i hi => by rw [getDN_snoc, if_pos hi]
    have at2 : (p.1 ++ [u]).getD p.1.length 0 = u := by rw [getDN_snoc, if_neg (Nat.lt_irrefl _), if_pos rfl]
    have ln : (p.1 ++ [u]).length = p.1.length + 1 := by rw [List.length_append]; rfl
    have ne : ∀ x, p.2 x ≠ 0 → x ≠ u := fun x hx e => hx (by rw [e]; exact c)
    have up : ∀ x, x ≠ u → va_up p.2 u (p.2 y + 1) x = p.2 x := fun x hx => mUp_ne _ _ hx
    refine ⟨⟨fun i hi => ?_, fun x hx => ?_, fun i j hij hj => ?_, ⟨?_, fun x hx hne => ?_⟩, fun x => ?_⟩, ?_, fun x hx => up x (ne x hx), by show p.1.length ≤ (p.1 ++ [u]).length; omega, at1⟩
    · have hi : i < (p.1 ++ [u]).length := hi
      show 0 < (p.1 ++ [u]).getD i 0 ∧ (p.1 ++ [u]).getD i 0 < 2 ^ (b + 1) ∧ va_up p.2 u (p.2 y + 1) ((p.1 ++ [u]).getD i 0) ≠ 0
      by_cases z : i < p.1.length
      · rw [at1 i z]
        obtain ⟨a1, a2, a3⟩ := h1 i z
        rw [up _ (ne _ a3)]
        exact ⟨a1, a2, a3⟩
      · have : i = p.1.length := by omega
        rw [this, at2, mUp_eq]
        exact ⟨u0, u1, Nat.succ_ne_zero _⟩
    · have hx : va_up p.2 u (p.2 y + 1) x ≠ 0 := hx
      by_cases z : x = u
      · exact ⟨p.1.length, by show _ < (p.1 ++ [u]).length; omega, by rw [z]; exact at2⟩
      · rw [up x z] at hx
        obtain ⟨i, i1, i2⟩ := h2 x hx
        exact ⟨i, by show _ < (p.1 ++ [u]).length; omega, (at1 i i1).trans i2⟩
    · have hj : j < (p.1 ++ [u]).length := hj
      show (p.1 ++ [u]).getD i 0 ≠ (p.1 ++ [u]).getD j 0
      rw [at1 i (by omega)]
      by_cases z : j < p.1.length
      · rw [at1 j z]
        exact h3 i j hij z
      · have : j = p.1.length := by omega
        rw [this, at2]
        exact ne _ (h1 i (by omega)).2.2
    · show va_up p.2 u (p.2 y + 1) st = 1
      rw [up st (ne st (by rw [h4.1]; decide))]
      exact h4.1
    · have hx : va_up p.2 u (p.2 y + 1) x ≠ 0 := hx
      show ∃ z, va_up p.2 u (p.2 y + 1) z ≠ 0 ∧ stp A B b m z x ∧ va_up p.2 u (p.2 y + 1) x = va_up p.2 u (p.2 y + 1) z + 1
      by_cases z : x = u
      · refine ⟨y, ?_, by rw [z]; exact hs, ?_⟩
        · rw [up y (ne y hy)]
          exact hy
        · rw [z, mUp_eq, up y (ne y hy)]
      · rw [up x z] at hx ⊢
        obtain ⟨w, w1, w2, w3⟩ := h4.2 x hx hne
        refine ⟨w, ?_, w2, ?_⟩
        · rw [up w (ne w w1)]
          exact w1
        · rw [up w (ne w w1)]
          exact w3
    · show va_up p.2 u (p.2 y + 1) x ≤ (p.1 ++ [u]).length
      by_cases z : x = u
      · rw [z, mUp_eq]
        have := h5 y
        omega
      · rw [up x z]
        have := h5 x
        omega
    · show va_up p.2 u (p.2 y + 1) u ≠ 0
      rw [mUp_eq]
      exact Nat.succ_ne_zero _
  · rw [if_neg (fun z => c z.1)]
    exact ⟨h, c, fun _ _ => rfl, Nat.le_refl _, fun _ _ => rfl⟩
theorem bfI_ok {A B : Nat → Nat} {b m st y : Nat} {d : Nat → Int32} {l : List Nat} {p : List Nat × (Nat → Nat)} (hq : qW d m A B) (hb : b ≤ 7) (h : bfB A B b m st p) (hy : p.2 y ≠ 0) (hl : ∀ i, i < l.length → stp A B b m y (l.getD i 0)) : ∀ j, j ≤ l.length → bfB A B b m st (bfI l (p.2 y) p j) ∧ (∀ i, i < j → (bfI l (p.2 y) p j).2 (l.getD i 0) ≠ 0) ∧ (∀ x, p.2 x ≠ 0 → (bfI l (p.2 y) p j).2 x = p.2 x) ∧ p.1.length ≤ (bfI l (p.2 y) p j).1.length ∧ (∀ i, i < p.1.length → (bfI l (p.2 y) p j).1.getD i 0 = p.1.getD i 0)
  | 0, _ => ⟨h, fun i hi => absurd hi (Nat.not_lt_zero _), fun _ _ => rfl, Nat.le_refl _, fun _ _ => rfl⟩
  | j + 1, hj => by
    obtain ⟨a1, a2, a3, a4, a5⟩ := bfI_ok hq hb h hy hl j (by omega)
    have ey : (bfI l (p.2 y) p j).2 y = p.2 y := a3 y hy
    obtain ⟨b1, b2, b3, b4, b5⟩ := bf1_ok (y := y) hq hb a1 (by rw [ey]; exact hy) (hl j (by omega))
    rw [ey] at b1 b2 b3 b4 b5
    rw [bfI]
    refine ⟨b1, fun i hi => ?_, fun x hx => ?_, by omega, fun i hi => ?_⟩
    · by_cases z : i = j
      · rw [z]
        exact b2
      · have := a2 i (by omega)
        rw [b3 _ this]
        exact this
    · rw [b3 x (by rw [a3 x hx]; exact hx), a3 x hx]
    · rw [b5 i (by omega), a5 i hi]
/-- all of the queue's first i have gone on -/
def bfC (A B : Nat → Nat) (b m i : Nat) (p : List Nat × (Nat → Nat)) : Prop := ∀ j u, j < i → stp A B b m (p.1.getD j 0) u → p.2 u ≠ 0
theorem getD_mem {l : List Nat} {i : Nat} (h : i < l.length) : l.getD i 0 ∈ l := by
  rw [List.getD_eq_getElem?_getD, List.getElem?_eq_getElem h]
  exact List.getElem_mem h
theorem mem_getD {l : List Nat} {u : Nat} (h : u ∈ l) : ∃ i, i < l.length ∧ l.getD i 0 = u := by
  obtain ⟨i, hi, e⟩ := List.mem_iff_getElem.mp h
  refine ⟨i, hi, ?_⟩
  rw [List.getD_eq_getElem?_getD, List.getElem?_eq_getElem hi]
  exact e
theorem bfN_ok {A B : Nat → Nat} {b m st : Nat} {d : Nat → Int32} (hq : qW d m A B) (hb : b ≤ 7) : ∀ k i p, bfB A B b m st p → bfC A B b m i p → i ≤ p.1.length → 257 ≤ i + k → bfB A B b m st (bfN (nxl A B b m) k i p) ∧ bfC A B b m (bfN (nxl A B b m) k i p).1.length (bfN (nxl A B b m) k i p) := by
  intro k
  induction k with
  | zero =>
    intro i p h hc hi hk
    exfalso
    have p8 : (2 : Nat) ^ (b + 1) ≤ 2 ^ 8 := Nat.pow_le_pow_right (by decide) (by omega)
    have : ∃ u, u < 256 ∧ p.2 u = 0 := ⟨0, by omega, Classical.byContradiction fun z => by
      obtain ⟨j, j1, j2⟩ := h.2.1 0 z
      have := (h.1 j j1).1
      omega⟩
    obtain ⟨u, u1, u2⟩ := this
    have := bfB_len hb h u1 u2
    omega
  | succ k ih =>
    intro i p h hc hi hk
    rw [bfN]
    by_cases z : i < p.1.length
    · rw [if_pos z]
      obtain ⟨x0, x1, x2⟩ := h.1 i z
      have mem := fun u => nxl_mem (u := u) hq hb x1 x0
      generalize hw : p.1.getD i 0 = w at *
      obtain ⟨a1, a2, a3, a4, a5⟩ := bfI_ok (l := nxl A B b m w) hq hb h x2 (fun j hj => (mem _).mp (getD_mem hj)) _ (Nat.le_refl _)
      refine ih (i + 1) _ a1 (fun j u hj hu => ?_) (by omega) (by omega)
      by_cases e : j = i
      · rw [e, a5 i z, hw] at hu
        obtain ⟨t, t1, t2⟩ := mem_getD ((mem u).mpr hu)
        rw [← t2]
        exact a2 t t1
      · rw [a5 j (by omega)] at hu
        have := hc j u (by omega) hu
        rw [a3 u this]
        exact this
    · rw [if_neg z]
      have : i = p.1.length := by omega
      rw [← this]
      exact ⟨h, hc⟩
theorem bf_0 {A B : Nat → Nat} {b m st : Nat} (h0 : 0 < st) (hst : st < 2 ^ (b + 1)) : bfB A B b m st ([st], fun x => if x = st then 1 else 0) := by
  have e : (fun x => if x = st then 1 else 0 : Nat → Nat) st = 1 := if_pos rfl
  refine ⟨fun i hi => ?_, fun x hx => ?_, fun i j hij hj => ?_, ⟨e, fun x hx hne => ?_⟩, fun x => ?_⟩
  · have : i = 0 := by
      have hi : i < 1 := hi
      omega
    subst this
    exact ⟨h0, hst, by show (if st = st then 1 else 0) ≠ 0; rw [if_pos rfl]; decide⟩
  · have hx : (if x = st then 1 else 0) ≠ 0 := hx
    by_cases z : x = st
    · exact ⟨0, Nat.zero_lt_one, z.symm⟩
    · rw [if_neg z] at hx
      exact absurd rfl hx
  · have hj : j < 1 := hj
    omega
  · have hx : (if x = st then 1 else 0) ≠ 0 := hx
    rw [if_neg hne] at hx
    exact absurd rfl hx
  · show (if x = st then 1 else 0) ≤ 1
    by_cases z : x = st
    · rw [if_pos z]
      omega
    · rw [if_neg z]
      omega
/-- the steps from st: what is reached, and by how many -/
theorem bfA_ok {A B : Nat → Nat} {b m st : Nat} {d : Nat → Int32} (hq : qW d m A B) (hb : b ≤ 7) (h0 : 0 < st) (hst : st < 2 ^ (b + 1)) : bfB A B b m st (bfA (nxl A B b m) st) ∧ ∀ x u, (bfA (nxl A B b m) st).2 x ≠ 0 → stp A B b m x u → (bfA (nxl A B b m) st).2 u ≠ 0 := by
  obtain ⟨a, c⟩ := bfN_ok hq hb 257 0 _ (bf_0 (A := A) (B := B) (m := m) h0 hst) (fun j u hj => absurd hj (Nat.not_lt_zero _)) (Nat.zero_le _) (by omega)
  refine ⟨a, fun x u hx hu => ?_⟩
  obtain ⟨i, i1, i2⟩ := a.2.1 x hx
  refine c i u i1 ?_
  rw [i2]
  exact hu
/-- the cells: the queue, the steps -/
def bfS (V : mV) (p : List Nat × (Nat → Nat)) : Prop := (∀ i, i < p.1.length → V.rI 79 i = nI (p.1.getD i 0)) ∧ ∀ x, x < 256 → V.rI 82 x = nI (p.2 x) - 1
theorem T_stepFrom_go {F e s m b st : Nat} {A B : Nat → Nat} {d : Nat → Int32} (hF : 64 ≤ F) (he : 256 ≤ e) (hb : b ≤ 7) (hm : m ≤ 6) (hd : qW d m A B) : ∀ k', (∀ k i p (V : mV), k * 200 + 1 ≤ k' → bfB A B b m st p → i ≤ p.1.length → 257 ≤ i + k → enQ V e s m (nI b) d → bfS V p → mTo (mX10_stepFrom_go F k' 0 e (nI p.1.length) (nI i) 0 V) (fun q => q.1 = nI (bfN (nxl A B b m) k i p).1.length ∧ bfS q.2 (bfN (nxl A B b m) k i p))) ∧ (∀ k i j p (V : mV), k * 200 + ((nxl A B b m (p.1.getD i 0)).length - j) + 3 ≤ k' → bfB A B b m st p → i < p.1.length → 256 ≤ i + k → j ≤ (nxl A B b m (p.1.getD i 0)).length → enQ V e s m (nI b) d → bfS V (bfI (nxl A B b m (p.1.getD i 0)) (p.2 (p.1.getD i 0)) p j) → nxS V (nxl A B b m (p.1.getD i 0)) → mTo (mX10_stepFrom_go F k' 1 e (nI (bfI (nxl A B b m (p.1.getD i 0)) (p.2 (p.1.getD i 0)) p j).1.length) (nI i) (nI j) V) (fun q => q.1 = nI (bfN (nxl A B b m) k (i + 1) (bfI (nxl A B b m (p.1.getD i 0)) (p.2 (p.1.getD i 0)) p (nxl A B b m (p.1.getD i 0)).length)).1.length ∧ bfS q.2 (bfN (nxl A B b m) k (i + 1) (bfI (nxl A B b m (p.1.getD i 0)) (p.2 (p.1.getD i 0)) p (nxl A B b m (p.1.getD i 0)).length)))) := by
  have p8 : (2 : Nat) ^ (b + 1) ≤ 2 ^ 8 := Nat.pow_le_pow_right (by decide) (by omega)
  have full : ∀ p, bfB A B b m st p → p.1.length < 256 := fun p h => bfB_len (u := 0) hb h (by omega) (Classical.byContradiction fun z => by
    obtain ⟨j, j1, j2⟩ := h.2.1 0 z
    have := (h.1 j j1).1
    omega)
  intro k'
  induction k' with
  | zero => exact ⟨fun k i p V h => by omega, fun k i j p V h => by omega⟩
  | succ x ih =>
    obtain ⟨ih0, ih1⟩ := ih
    refine ⟨fun k i p V h1 hB hi hk hq hS => ?_, fun k i j p V h1 hB hi hk hj hq hS hN => ?_⟩
    · have len := full p hB
      rw [mX10_stepFrom_go, if_pos rfl]
      unfold mX10_stepFrom_b0
      obtain ⟨k, rfl⟩ : ∃ y, k = y + 1 := ⟨k - 1, by omega⟩
      rw [bfN]
      refine mTo.le rfl rfl (by omega) (by omega) (fun h => mTo.ret ?_) (fun h => mTo.ix rfl (by omega) (by omega) ?_)
      · rw [if_neg (by omega)]
        exact ⟨rfl, hS⟩
      · rw [if_pos h, nI_clamp (by omega), hS.1 i h]
        obtain ⟨x0, x1, x2⟩ := hB.1 i h
        obtain ⟨q, e1, r1, r2⟩ := T_findNext (F := F) hF he hb hm x1 x0 hd hq
        refine mTo.W (Q := fun q => nxS q.2 (nxl A B b m (p.1.getD i 0)) ∧ mAv (wX10_findNext e) V q.2) ⟨q, e1, r1, r2⟩ (fun a V1 _ r => ?_)
        obtain ⟨r3, r4⟩ := r
        have r4 : mAv (wX10_findNext e) V V1 := r4
        exact ih1 k i 0 p V1 (by have := nxl_len (A := A) (B := B) (b := b) hm (show p.1.getD i 0 < 256 by omega) x0; omega) hB h (by omega) (Nat.zero_le _) (hq.mv r4 (by unfold wX10_findNext; omega) (by unfold wX10_findNext; omega)) ⟨fun i' hi' => by rw [(r4.1 79 (by unfold wX10_findNext; omega)).2.2.1]; exact hS.1 i' hi', fun y hy => by rw [(r4.1 82 (by unfold wX10_findNext; omega)).2.2.1]; exact hS.2 y hy⟩ r3
    · obtain ⟨x0, x1, x2⟩ := hB.1 i hi
      have mem := fun u => nxl_mem (u := u) hd hb x1 x0
      have ll := nxl_len (A := A) (B := B) (b := b) hm (show p.1.getD i 0 < 256 by omega) x0
      generalize hw : p.1.getD i 0 = w at *
      generalize hl : nxl A B b m w = l at *
      have hst : ∀ j, j < l.length → stp A B b m w (l.getD j 0) := fun j hj => (mem _).mp (getD_mem hj)
      obtain ⟨a1, a2, a3, a4, a5⟩ := bfI_ok (l := l) hd hb hB x2 hst j hj
      have len := full _ a1
      rw [mX10_stepFrom_go, if_neg (by decide), if_pos rfl]
      unfold mX10_stepFrom_b1
      refine mTo.le hN.1 rfl (by omega) (by omega) (fun h => mTo.lt ?_) (fun h => ?_)
      · have : j = l.length := by omega
        subst this
        rw [nI_1]
        exact ih0 k (i + 1) _ V (by omega) a1 (by omega) (by omega) hq hS
      · have cj : (nI j).toNatClampNeg = j := nI_clamp (by omega)
        obtain ⟨u0, u1⟩ := stp_b hd (hst j h)
        have v83 : V.rI 83 (nI j).toNatClampNeg = nI (l.getD j 0) := by rw [cj, hN.2 j h]
        have g := ih1 k i (j + 1) p
        rw [hw, hl] at g
        rw [bfI] at g
        have b2 := a1.2.2.2.2 (l.getD j 0)
        have cu : (nI (l.getD j 0)).toNatClampNeg = l.getD j 0 := nI_clamp (by omega)
        have sv := hS.2 (l.getD j 0) (by omega)
        rw [v83]
        refine mTo.ix rfl (by omega) (by omega) (mTo.ix rfl (by omega) (by omega) ?_)
        rw [show V.rI 82 (nI (l.getD j 0)).toNatClampNeg = nI ((bfI l (p.2 w) p j).2 (l.getD j 0)) - 1 by rw [cu, sv]]
        unfold bf1 at g
        by_cases c : (bfI l (p.2 w) p j).2 (l.getD j 0) = 0
        · rw [if_neg (fun z => (nI_m1_neg (by omega)).mp z c)]
          rw [if_pos ⟨c, len⟩] at g
          refine mTo.le (a := 256) rfl rfl (by omega) (by omega) (fun z => by omega) (fun _ => mTo.ix rfl (by omega) (by omega) (mTo.ix rfl (by omega) (by omega) ?_))
          have ci : (nI i).toNatClampNeg = i := nI_clamp (by omega)
          have v79 : V.rI 79 (nI i).toNatClampNeg = nI w := by rw [ci, hS.1 i (by omega), a5 i hi, hw]
          have cw : (nI w).toNatClampNeg = w := nI_clamp (by omega)
          have s82 := hS.2 w (by omega)
          rw [a3 w x2] at s82
          rw [v79, show V.rI 82 (nI w).toNatClampNeg = nI (p.2 w) - 1 by rw [cw, s82], Int32.sub_add_cancel]
          refine mTo.ix rfl (by omega) (by omega) (mTo.ix rfl (by omega) (by omega) (mTo.lt (mTo.ix rfl (by omega) (by omega) (mTo.ix rfl (by omega) (by omega) (mTo.lt (mTo.lt (mTo.lt ?_)))))))
          rw [show (mI V 82 (nI (l.getD j 0)) (nI (p.2 w))).rI 83 (nI j).toNatClampNeg = nI (l.getD j 0) by rw [mI_no (by decide)]; exact v83, nI_1, nI_1]
          have gl : (bfI l (p.2 w) p j).1.length + 1 = ((bfI l (p.2 w) p j).1 ++ [l.getD j 0]).length := by rw [List.length_append]; rfl
          rw [gl]
          refine g _ (by omega) hB hi hk (by omega) ⟨hq.1, hq.2.1, hq.2.2.1, fun t ht => by rw [mI_no (by omega), mI_no (by omega)]; exact hq.2.2.2 t ht⟩ ⟨fun t ht => ?_, fun y hy => ?_⟩ ⟨hN.1, fun t ht => by rw [mI_no (by decide), mI_no (by decide)]; exact hN.2 t ht⟩
          · have ht : t < ((bfI l (p.2 w) p j).1 ++ [l.getD j 0]).length := ht
            rw [← gl] at ht
            show (mI (mI V 82 (nI (l.getD j 0)) (nI (p.2 w))) 79 (nI (bfI l (p.2 w) p j).1.length) (nI (l.getD j 0))).rI 79 t = nI (((bfI l (p.2 w) p j).1 ++ [l.getD j 0]).getD t 0)
            rw [mI_at (nI_clamp (by omega)), getDN_snoc, mI_no (by decide)]
            by_cases z : t = (bfI l (p.2 w) p j).1.length
            · rw [if_pos z, if_neg (by omega), if_pos z]
            · rw [if_neg z, if_pos (by omega), hS.1 t (by omega)]
          · show (mI (mI V 82 (nI (l.getD j 0)) (nI (p.2 w))) 79 (nI (bfI l (p.2 w) p j).1.length) (nI (l.getD j 0))).rI 82 y = nI (va_up (bfI l (p.2 w) p j).2 (l.getD j 0) (p.2 w + 1) y) - 1
            rw [mI_no (by decide), mI_at cu]
            by_cases z : y = l.getD j 0
            · rw [if_pos z, z, mUp_eq, nI_pred]
            · rw [if_neg z, mUp_ne _ _ z, hS.2 y hy]
        · rw [if_pos ((nI_m1_neg (by omega)).mpr c)]
          rw [if_neg (fun z => c z.1)] at g
          refine mTo.lt ?_
          rw [nI_1]
          exact g V (by omega) hB hi hk (by omega) hq hS hN
theorem T_stepFrom {F e s m b st : Nat} {A B : Nat → Nat} {d : Nat → Int32} {V : mV} (hF : 2 ^ 22 ≤ F) (he : 256 ≤ e) (hb : b ≤ 7) (hm : m ≤ 6) (hd : qW d m A B) (h0 : 0 < st) (hst : st < 2 ^ (b + 1)) (hq : enQ V e s m (nI b) d) : mTo (mX10_stepFrom F e (nI st) V) (fun q => q.1 = nI (bfA (nxl A B b m) st).1.length ∧ bfS q.2 (bfA (nxl A B b m) st) ∧ mAv (wX10_stepFrom e) V q.2) := by
  have p8 : (2 : Nat) ^ (b + 1) ≤ 2 ^ 8 := Nat.pow_le_pow_right (by decide) (by omega)
  have main : mTo (mX10_stepFrom F e (nI st) V) (fun q => q.1 = nI (bfA (nxl A B b m) st).1.length ∧ bfS q.2 (bfA (nxl A B b m) st)) := by
    unfold mX10_stepFrom mX10_stepFrom_s
    refine mTo.W (T_fill (F := F) (a := 82) (N := 256) (by omega) rfl (by omega)) (fun a V1 _ qf => ?_)
    obtain ⟨z0, qb⟩ := qf
    have z0 : ∀ i, i < 256 → V1.rI 82 i = -1 := z0
    have qb : mAv (wJ7_fill_53178 82) V V1 := qb
    have hq1 := hq.mv qb (by unfold wJ7_fill_53178; omega) (by unfold wJ7_fill_53178; omega)
    have cs : (nI st).toNatClampNeg = st := nI_clamp (by omega)
    refine mTo.ix rfl (by omega) (by omega) (mTo.lt (mTo.ix (c := 0) rfl (by omega) (by omega) (mTo.lt ?_)))
    refine (T_stepFrom_go (F := F) (st := st) (by omega) he hb hm hd F).1 257 0 ([st], fun x => if x = st then 1 else 0) _ (by omega) (bf_0 h0 hst) (Nat.zero_le _) (by omega) ⟨hq1.1, hq1.2.1, hq1.2.2.1, fun t ht => by rw [mI_no (by omega), mI_no (by omega)]; exact hq1.2.2.2 t ht⟩ ⟨fun i hi => ?_, fun x hx => ?_⟩
    · have hi : i < 1 := hi
      have : i = 0 := by omega
      subst this
      rw [mI_at (j := 0) (by decide), if_pos rfl]
      rfl
    · rw [mI_no (by decide), mI_at cs]
      show (if x = st then (0 : Int32) else V1.rI 82 x) = nI (if x = st then 1 else 0) - 1
      by_cases z : x = st
      · rw [if_pos z, if_pos z]
        decide
      · rw [if_neg z, if_neg z, z0 x hx]
        decide
  obtain ⟨p, e1, q1, q2⟩ := main
  exact ⟨p, e1, q1, q2, NX10_stepFrom (v := p.1) e1⟩
end
