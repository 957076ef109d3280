/-! THE PURE PART, clauses: the nodes of the tree by their numbers (1 the root, 2 n and 2 n + 1 below n); finite facts by the kernel. -/
section
def dp (n : Nat) : Nat := Nat.log2 n
def onB (n : Nat) : Nat → Nat
  | 0 => 0
  | i + 1 => onB n i + (if n.testBit (dp n - 1 - i) = true then 2 ^ i else 0)
/-- the truths that are 1 on the way to n -/
def on (n : Nat) : Nat := onB n (dp n)
set_option maxRecDepth 100000 in
theorem nd_dn : ∀ n, n < 64 → 0 < n → dp (2 * n) = dp n + 1 ∧ on (2 * n) = on n := by decide +kernel
set_option maxRecDepth 100000 in
theorem nd_ev : ∀ n, n < 128 → 0 < n → n % 2 = 0 → 0 < dp n ∧ (on n).testBit (dp n - 1) = false ∧ dp (n + 1) = dp n ∧ on (n + 1) = on n ||| 2 ^ (dp n - 1) := by decide +kernel
set_option maxRecDepth 100000 in
theorem nd_od : ∀ n, n < 128 → 1 < n → n % 2 = 1 → 0 < dp n ∧ (on n).testBit (dp n - 1) = true ∧ dp (n / 2) = dp n - 1 ∧ on (n / 2) = nsd (on n) (2 ^ (dp n - 1)) := by decide +kernel
set_option maxRecDepth 100000 in
theorem nd_lt : ∀ n, n < 128 → 0 < n → dp n ≤ 6 ∧ on n < 2 ^ dp n ∧ 2 ^ dp n ≤ n ∧ n < 2 ^ (dp n + 1) := by decide +kernel
set_option maxRecDepth 100000 in
theorem nd_up : ∀ x, x < 128 → ∀ t, t < 7 → 0 < x / 2 ^ t → dp (x / 2 ^ t) + t = dp x ∧ pop (on (x / 2 ^ t)) ≤ pop (on x) ∧ ∀ i, i < dp (x / 2 ^ t) → (on x).testBit i = (on (x / 2 ^ t)).testBit i := by decide +kernel
set_option maxRecDepth 100000 in
theorem nd_rv : ∀ s, s < 7 → ∀ T, T < 2 ^ s → dp (2 ^ s + T) = s ∧ on (2 ^ s + on (2 ^ s + T)) = T ∧ on (2 ^ s + T) < 2 ^ s ∧ ∀ i, i < s → (on (2 ^ s + T)).testBit i = T.testBit (s - 1 - i) := by decide +kernel
/-- the node behind n and all below it; 0: none -/
def nxF : Nat → Nat → Nat
  | 0, _ => 0
  | k + 1, n => if n % 2 = 0 then n + 1 else if n = 1 then 0 else nxF k (n / 2)
def nx8 (n : Nat) : Nat := nxF 8 n
/-- how many nodes may still come -/
def rem (s : Nat) : Nat → Nat → Nat
  | 0, _ => 0
  | k + 1, n => if n = 0 then 0 else if dp n < s then rem s k (2 * n) + 1 else rem s k (nx8 n) + 1
set_option maxRecDepth 100000 in
theorem nd_nx : ∀ n, n < 128 → 0 < n → nx8 n = 0 ∧ n + 1 = 2 ^ (dp n + 1) ∨ 0 < nx8 n ∧ nx8 n < 128 ∧ dp (nx8 n) ≤ dp n ∧ nx8 n * 2 ^ (dp n - dp (nx8 n)) = n + 1 := by decide +kernel
set_option maxRecDepth 100000 in
theorem nd_rem1 : ∀ s, s < 7 → 0 < s → rem s 128 1 ≤ 127 := by decide +kernel
set_option maxRecDepth 100000 in
theorem nd_rem2 : ∀ s, s < 7 → ∀ n, n < 128 → n < 2 ^ (s + 1) → 0 < n → dp n < s → rem s 128 (2 * n) < rem s 128 n := by decide +kernel
set_option maxRecDepth 100000 in
theorem nd_rem3 : ∀ s, s < 7 → ∀ n, n < 128 → n < 2 ^ (s + 1) → 0 < n → rem s 128 (nx8 n) < rem s 128 n := by decide +kernel
/-- the sign at an index does not hold -/
def bkI (d : Nat → Int32) (D ones i k : Nat) : Bool := decide (d (5 * i + k) = 0) || (decide (((if 0 ≤ d (5 * i + k) then d (5 * i + k) else 0 - d (5 * i + k))).toNatClampNeg ≤ D) && !(ones.testBit (((if 0 ≤ d (5 * i + k) then d (5 * i + k) else 0 - d (5 * i + k))).toNatClampNeg - 1) == decide (0 < d (5 * i + k))))
def bk (d : Nat → Int32) (D ones i : Nat) : Bool := bkI d D ones i 0 && bkI d D ones i 1 && bkI d D ones i 2
def qS (d : Nat → Int32) (m s : Nat) : Prop := ∀ i k, i < m → k < 3 → ∃ a, a ≤ s ∧ (d (5 * i + k) = nI a ∨ d (5 * i + k) = -nI a)
theorem ab_p : ∀ a, a < 7 → (if 0 ≤ nI a then nI a else 0 - nI a) = nI a ∧ (if 0 ≤ -nI a then -nI a else 0 - -nI a) = nI a ∧ (0 < a → nI a ≠ 0 ∧ -nI a ≠ 0 ∧ ¬ nI a ≤ 0 ∧ -nI a ≤ 0 ∧ (0 < nI a) ∧ ¬ (0 < -nI a)) := by decide +kernel
def clS (V : mV) (n : Nat) : Prop := V.fI 5 4 = nI (dp n) ∧ V.fI 5 5 = nI (on n)
theorem T_isBroken {F e s m i D ones : Nat} {b : Int32} {d : Nat → Int32} {V : mV} (hF : 8 ≤ F) (hs : s ≤ 6) (hm : m ≤ 12) (hd : qS d m s) (hq : enQ V e s m b d) (h4 : V.fI 5 4 = nI D) (h5 : V.fI 5 5 = nI ones) (hD : D ≤ 6) (ho : ones < 2 ^ 6) (hi : i < m) : mTo (mX1_isBroken F e (nI i) V) (fun v => (v = 0 ∨ v = 1) ∧ (v ≠ 0 ↔ bk d D ones i = true)) := by
  have go : ∀ k' k, 3 < k + k' → k ≤ 3 → (∀ l, l < k → bkI d D ones i l = true) → mTo (mX1_isBroken_go F k' 0 e (nI i) (nI k) V) (fun v => (v = 0 ∨ v = 1) ∧ (v ≠ 0 ↔ bk d D ones i = true)) := by
    intro k'
    induction k' with
    | zero => intro k h1 h2; omega
    | succ x ih =>
      intro k h1 h2 hl
      rw [mX1_isBroken_go, if_pos rfl]
      unfold mX1_isBroken_b0
      refine mTo.le (a := 3) rfl rfl (by omega) (by omega) (fun h => mTo.ret ⟨Or.inr rfl, fun _ => ?_, fun _ => by decide⟩) (fun h => ?_)
      · unfold bk
        rw [hl 0 (by omega), hl 1 (by omega), hl 2 (by omega)]
        rfl
      · have rd := hq.2.2.2 (5 * i + k) (by omega)
        have no : bkI d D ones i k = false → mTo (some (0 : Int32)) (fun v => (v = 0 ∨ v = 1) ∧ (v ≠ 0 ↔ bk d D ones i = true)) := fun z => mTo.ret ⟨Or.inl rfl, fun y => absurd rfl y, fun y => by
          unfold bk at y
          rw [Bool.and_eq_true, Bool.and_eq_true] at y
          have : k = 0 ∨ k = 1 ∨ k = 2 := by omega
          rcases this with q | q | q
          · rw [q, y.1.1] at z
            exact absurd z (by decide)
          · rw [q, y.1.2] at z
            exact absurd z (by decide)
          · rw [q, y.2] at z
            exact absurd z (by decide)⟩
        have nxt : bkI d D ones i k = true → mTo (mX1_isBroken_go F x 0 e (nI i) (nI (k + 1)) V) (fun v => (v = 0 ∨ v = 1) ∧ (v ≠ 0 ↔ bk d D ones i = true)) := fun z => ih (k + 1) (by omega) (by omega) (fun l hlk => by
          by_cases q : l = k
          · rw [q]
            exact z
          · exact hl l (by omega))
        refine mTo.so (T_item (k := k) hq.2.1 (by omega) hi (by omega) rfl rd) (mTo.lt ?_)
        obtain ⟨a, a6, ha⟩ := hd i k hi (by omega)
        obtain ⟨p1, p2, p3⟩ := ab_p a (by omega)
        unfold bkI at no nxt
        by_cases a0 : a = 0
        · have z : d (5 * i + k) = 0 := by
            rcases ha with z | z
            · rw [z, a0]
              rfl
            · rw [z, a0]
              decide
          rw [z, if_pos rfl, nI_1]
          exact mTo.lt (nxt (by rw [decide_eq_true z]; rfl))
        · obtain ⟨c1, c2, c3, c4, c5, c6⟩ := p3 (by omega)
          obtain ⟨t, rfl⟩ : ∃ t, a = t + 1 := ⟨a - 1, by omega⟩
          rcases ha with z | z
          · rw [z, p1, nI_pred, if_neg c1]
            rw [z, p1, decide_eq_false c1, nI_clamp (by omega), decide_eq_true c5] at no nxt
            refine mTo.le h4 rfl (by omega) (by omega) (fun y => no ?_) (fun y => ?_)
            · rw [decide_eq_false (by omega)]
              rfl
            · rw [decide_eq_true (show t + 1 ≤ D by omega), Nat.add_sub_cancel] at no nxt
              cases hb : ones.testBit t with
              | true =>
                refine mTo.so (by rw [h5]; exact nb_hasT (by omega) (by omega) hb) ?_
                rw [if_neg c3, if_pos rfl]
                exact no (by rw [hb]; rfl)
              | false =>
                refine mTo.so (by rw [h5]; exact nb_hasF (by omega) (by omega) hb) ?_
                rw [if_neg c3, if_neg (by decide), nI_1]
                exact mTo.lt (nxt (by rw [hb]; rfl))
          · rw [z, p2, nI_pred, if_neg c2]
            rw [z, p2, decide_eq_false c2, nI_clamp (by omega), decide_eq_false c6] at no nxt
            refine mTo.le h4 rfl (by omega) (by omega) (fun y => no ?_) (fun y => ?_)
            · rw [decide_eq_false (by omega)]
              rfl
            · rw [decide_eq_true (show t + 1 ≤ D by omega), Nat.add_sub_cancel] at no nxt
              cases hb : ones.testBit t with
              | true =>
                refine mTo.so (by rw [h5]; exact nb_hasT (by omega) (by omega) hb) ?_
                rw [if_pos c4, if_neg (by decide), nI_1]
                exact mTo.lt (nxt (by rw [hb]; rfl))
              | false =>
                refine mTo.so (by rw [h5]; exact nb_hasF (by omega) (by omega) hb) ?_
                rw [if_pos c4, if_pos rfl]
                exact no (by rw [hb]; rfl)
  unfold mX1_isBroken mX1_isBroken_s
  exact go F 0 (by omega) (Nat.zero_le _) (fun l hl => absurd hl (Nat.not_lt_zero _))
/-- the lowest broken item (its number plus 1), 0: none -/
def biN (d : Nat → Int32) (D ones : Nat) : Nat → Nat → Nat
  | 0, _ => 0
  | k + 1, i => if bk d D ones i = true then i + 1 else biN d D ones k (i + 1)
theorem biN_spec {d : Nat → Int32} {D ones : Nat} : ∀ k i, (biN d D ones k i = 0 ∧ ∀ j, i ≤ j → j < i + k → bk d D ones j = false) ∨ (i < biN d D ones k i ∧ biN d D ones k i ≤ i + k ∧ bk d D ones (biN d D ones k i - 1) = true)
  | 0, i => Or.inl ⟨rfl, fun j h1 h2 => by omega⟩
  | k + 1, i => by
    rw [biN]
    by_cases e : bk d D ones i = true
    · rw [if_pos e]
      exact Or.inr ⟨by omega, by omega, e⟩
    · rw [if_neg e]
      rcases biN_spec (d := d) (D := D) (ones := ones) k (i + 1) with ⟨a, b⟩ | ⟨a, b, c⟩
      · refine Or.inl ⟨a, fun j h1 h2 => ?_⟩
        by_cases z : j = i
        · rw [z]
          exact Bool.eq_false_iff.mpr e
        · exact b j (by omega) (by omega)
      · exact Or.inr ⟨by omega, by omega, c⟩
theorem T_brokenItem {F e s m D ones : Nat} {b : Int32} {d : Nat → Int32} {V : mV} (hF : 64 ≤ F) (hs : s ≤ 6) (hm : m ≤ 12) (hd : qS d m s) (hq : enQ V e s m b d) (h4 : V.fI 5 4 = nI D) (h5 : V.fI 5 5 = nI ones) (hD : D ≤ 6) (ho : ones < 2 ^ 6) : mTo (mX1_brokenItem F e V) (fun v => v = nI (biN d D ones m 0) - 1) := by
  have go : ∀ k' i, m < i + k' → i ≤ m → mTo (mX1_brokenItem_go F k' 0 e (nI i) V) (fun v => v = nI (biN d D ones (m - i) i) - 1) := by
    intro k'
    induction k' with
    | zero => intro i h1 h2; omega
    | succ x ih =>
      intro i h1 h2
      rw [mX1_brokenItem_go, if_pos rfl]
      unfold mX1_brokenItem_b0
      refine mTo.le hq.2.1 rfl (by omega) (by omega) (fun h => mTo.ret ?_) (fun h => mTo.N (T_isBroken (by omega) hs hm hd hq h4 h5 hD ho h) (fun v _ q => mTo.tf q (fun z => mTo.lt ?_) (fun z => mTo.ret ?_)))
      · rw [show m - i = 0 by omega]
        exact (by decide : (-1 : Int32) = nI 0 - 1)
      · rw [show m - i = m - (i + 1) + 1 by omega, biN, if_neg z, nI_1]
        exact ih (i + 1) (by omega) (by omega)
      · rw [show m - i = m - (i + 1) + 1 by omega, biN, if_pos z, nI_pred]
  unfold mX1_brokenItem mX1_brokenItem_s
  exact go F 0 (by omega) (Nat.zero_le _)
end
