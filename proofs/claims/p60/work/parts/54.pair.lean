/-! THE PURE PART: an entry's question, a row, as pictures; pairings: what the judges say. -/
section
/-- the question of the entry e: size, items, bound, numbers -/
def enQ (V : mV) (e s m : Nat) (b : Int32) (d : Nat → Int32) : Prop := V.fI e 1 = nI s ∧ V.fI e 6 = nI m ∧ V.fI e 8 = b ∧ ∀ j, j < 5 * m → V.rI (e + 1) j = d j
theorem enQ.mv {V V1 : mV} {e s m : Nat} {b : Int32} {d : Nat → Int32} {w : Nat → Prop} (h : enQ V e s m b d) (a : mAv w V V1) (h1 : ¬ w e) (h2 : ¬ w (e + 1)) : enQ V1 e s m b d := by
  obtain ⟨q1, q2, q3, q4⟩ := h
  have f := (a.1 e h1).1
  have g := (a.1 (e + 1) h2).2.2.1
  exact ⟨by rw [f, q1], by rw [f, q2], by rw [f, q3], fun j hj => by rw [g, q4 j hj]⟩
/-- the row r holds the numbers xs -/
def rowIs (Ln : Nat → Nat) (V : mV) (r : Nat) (xs : List Int32) : Prop := V.fI r 1 = nI xs.length ∧ xs.length ≤ Ln (r + 1) ∧ (∃ k, k ≤ 6 ∧ Ln (r + 1) = 16 * 2 ^ k) ∧ ∀ i, i < xs.length → V.rI (r + 1) i = xs.getD i 0
theorem rowIs.L {Ln : Nat → Nat} {V : mV} {r : Nat} {xs : List Int32} (h : rowIs Ln V r xs) : Ln (r + 1) ≤ 1024 := by
  obtain ⟨_, _, ⟨k, hk, e⟩, _⟩ := h
  have : 2 ^ k ≤ 2 ^ 6 := Nat.pow_le_pow_right (by decide) hk
  omega
theorem rowIs.n {Ln : Nat → Nat} {V : mV} {r : Nat} {xs : List Int32} (h : rowIs Ln V r xs) : xs.length ≤ 1024 := Nat.le_trans h.2.1 h.L
theorem rowIs.mv {Ln : Nat → Nat} {V V1 : mV} {r : Nat} {xs : List Int32} {w : Nat → Prop} (h : rowIs Ln V r xs) (a : mAv w V V1) (h1 : ¬ w r) (h2 : ¬ w (r + 1)) : rowIs Ln V1 r xs := by
  obtain ⟨q1, q2, q3, q4⟩ := h
  have f := (a.1 r h1).1
  have g := (a.1 (r + 1) h2).2.2.1
  exact ⟨by rw [f, q1], q2, q3, fun j hj => by rw [g, q4 j hj]⟩
theorem getD_out {xs : List Int32} {j : Nat} (h : xs.length ≤ j) : xs.getD j 0 = 0 := by
  rw [List.getD_eq_getElem?_getD, List.getElem?_eq_none h]
  rfl
theorem T_rAt {F : Nat} {Ln : Nat → Nat} {V : mV} {r j : Nat} {xs : List Int32} (h : rowIs Ln V r xs) (hj : j < 2 ^ 30) : mX9_at F Ln r (nI j) V = some (xs.getD j 0) := by
  obtain ⟨v, e, q⟩ := T_at (F := F) h.1 h.2.1 h.L hj
  rw [e, q]
  by_cases hl : j < xs.length
  · rw [if_pos hl, h.2.2.2 j hl]
  · rw [if_neg hl]
    congr 1
    exact (getD_out (by omega)).symm
theorem T_rWithin {F : Nat} {Ln : Nat → Nat} {V : mV} {r j : Nat} {xs : List Int32} {lo hi : Int32} (hF : 2048 ≤ F) (h : rowIs Ln V r xs) (hj : j < 2 ^ 30) : mTo (mX9_liesWithin F Ln r (nI j) lo hi V) (fun v => (v = 0 ∨ v = 1) ∧ (v ≠ 0 ↔ ∀ i, j ≤ i → i < xs.length → ¬ xs.getD i 0 < lo ∧ xs.getD i 0 ≤ hi)) := by
  refine (T_liesWithin (lo := lo) (hi := hi) hF h.1 h.2.1 h.L hj).mono (fun v hv => ?_)
  rcases hv with ⟨e, q⟩ | ⟨e, i, h1, h2, q⟩
  · subst e
    exact ⟨Or.inr rfl, fun _ i h1 h2 => by rw [← h.2.2.2 i h2]; exact q i h1 h2, fun _ => by decide⟩
  · subst e
    refine ⟨Or.inl rfl, fun z => absurd rfl z, fun z => ?_⟩
    have := z i h1 h2
    rw [← h.2.2.2 i h2] at this
    exact absurd this (fun y => q.elim y.1 (fun x => x y.2))
theorem T_rRising {F : Nat} {Ln : Nat → Nat} {V : mV} {r j : Nat} {xs : List Int32} (hF : 2048 ≤ F) (h : rowIs Ln V r xs) (hj : j < 2 ^ 30) : mTo (mX9_isRising F Ln r (nI j) V) (fun v => (v = 0 ∨ v = 1) ∧ (v ≠ 0 ↔ ∀ i, j ≤ i → i + 1 < xs.length → xs.getD i 0 < xs.getD (i + 1) 0)) := by
  refine (T_isRising hF h.1 h.2.1 h.L hj).mono (fun v hv => ?_)
  rcases hv with ⟨e, q⟩ | ⟨e, i, h1, h2, q⟩
  · subst e
    exact ⟨Or.inr rfl, fun _ i h1 h2 => by rw [← h.2.2.2 i (by omega), ← h.2.2.2 (i + 1) h2]; exact q i h1 h2, fun _ => by decide⟩
  · subst e
    refine ⟨Or.inl rfl, fun z => absurd rfl z, fun z => ?_⟩
    have := z i h1 h2
    rw [← h.2.2.2 i (by omega), ← h.2.2.2 (i + 1) h2] at this
    exact absurd this q
theorem mTo.tf {α : Type} {v : Int32} {C : Prop} {A B : Option α} {Q : α → Prop} (q : (v = 0 ∨ v = 1) ∧ (v ≠ 0 ↔ C)) (h0 : ¬ C → mTo A Q) (h1 : C → mTo B Q) : mTo (if v = 0 then A else B) Q := mTo.ite (fun h => h0 fun z => q.2.mpr z h) (fun h => h1 (q.2.mp h))
theorem i32nat {x : Int32} {s : Nat} (hs : s < 2 ^ 31) (h : ¬ x < 0 ∧ x ≤ nI s - 1) (h0 : 0 < s) : ∃ j, j < s ∧ x = nI j := by
  obtain ⟨j, h1, e⟩ := nI_of h.1
  subst e
  obtain ⟨t, rfl⟩ : ∃ t, s = t + 1 := ⟨s - 1, by omega⟩
  have h2 := h.2
  rw [nI_pred, nI_leI h1 (by omega)] at h2
  exact ⟨j, by omega, rfl⟩
theorem i32nat' {s j : Nat} (hs : s < 2 ^ 31) (h : j < s) : ¬ nI j < 0 ∧ nI j ≤ nI s - 1 := by
  obtain ⟨t, rfl⟩ : ∃ t, s = t + 1 := ⟨s - 1, by omega⟩
  rw [nI_pred, nI_leI (by omega) (by omega)]
  exact ⟨nI_pos (by omega), by omega⟩
/-- the number at a place of a row, as a natural one -/
def pX (xs : List Int32) (i : Nat) : Nat := (xs.getD i 0).toNatClampNeg
theorem pX_eq {xs : List Int32} {i j : Nat} (h : xs.getD i 0 = nI j) (hj : j < 2 ^ 31) : pX xs i = j := by
  unfold pX
  rw [h, nI_clamp hj]
def inRow (xs : List Int32) (s : Nat) : Prop := ∀ i, i < xs.length → ∃ j, j < s ∧ xs.getD i 0 = nI j
theorem inRow.p {xs : List Int32} {s i : Nat} (h : inRow xs s) (hs : s ≤ 2 ^ 20) (hi : i < xs.length) : pX xs i < s ∧ xs.getD i 0 = nI (pX xs i) := by
  obtain ⟨j, h1, h2⟩ := h i hi
  rw [pX_eq h2 (by omega)]
  exact ⟨h1, h2⟩
theorem inRow_iff {xs : List Int32} {s : Nat} (hs : s < 2 ^ 20) (h0 : 0 < s) : inRow xs s ↔ ∀ i, 0 ≤ i → i < xs.length → ¬ xs.getD i 0 < 0 ∧ xs.getD i 0 ≤ nI s - 1 := by
  constructor
  · intro h i _ hi
    obtain ⟨j, h1, h2⟩ := h i hi
    rw [h2]
    exact i32nat' (by omega) h1
  · intro h i hi
    exact i32nat (by omega) (h i (Nat.zero_le _) hi) h0
def pairOK (s : Nat) (nr : Nat → Nat) (b : Nat) (xs : List Int32) : Prop := (xs.length = s ∧ inRow xs s) ∧ (∀ i, i < s → pX xs (pX xs i) = i) ∧ (∀ i, i < s → pX xs i ≠ i → (nr i).testBit (pX xs i) = true) ∧ cnt (fun i => decide (pX xs i = i)) s ≤ b
theorem T_judgePairing_go {F e r s b : Nat} {Ln : Nat → Nat} {nr : Nat → Nat} {xs : List Int32} {V : mV} (hs : s ≤ 9) (hb : V.fI e 8 = nI b) (hb2 : b < 2 ^ 20) (hr : rowIs Ln V r xs) (hl : xs.length = s) (hi : inRow xs s) (hnr : ∀ i, i < 9 → V.rI 19 i = nI (nr i)) (hnb : ∀ i, nr i < 2 ^ 9) : ∀ k', (∀ j, (s - j) + s + 3 ≤ k' → j ≤ s → (∀ i, i < j → pX xs (pX xs i) = i) → mTo (mX7_judgePairing_go F k' 0 Ln e r (nI s) 0 (nI j) V) (fun p => (p.1 = 0 ↔ pairOK s nr b xs) ∧ p.2 = V)) ∧ (∀ j, (s - j) + 1 ≤ k' → j ≤ s → (∀ i, i < s → pX xs (pX xs i) = i) → (∀ i, i < j → pX xs i ≠ i → (nr i).testBit (pX xs i) = true) → mTo (mX7_judgePairing_go F k' 1 Ln e r (nI s) (nI (cnt (fun i => decide (pX xs i = i)) j)) (nI j) V) (fun p => (p.1 = 0 ↔ pairOK s nr b xs) ∧ p.2 = V)) := by
  intro k'
  induction k' with
  | zero => exact ⟨fun j h1 h2 => by omega, fun j h1 h2 => by omega⟩
  | succ k ih =>
    obtain ⟨ih0, ih1⟩ := ih
    refine ⟨fun j h1 h2 hp => ?_, fun j h1 h2 hp ha => ?_⟩
    · rw [mX7_judgePairing_go, if_pos rfl]
      unfold mX7_judgePairing_b0
      refine mTo.le rfl rfl (by omega) (by omega) (fun h => ?_) (fun h => ?_)
      · have : j = s := by omega
        subst this
        exact ih1 0 (by omega) (by omega) hp (fun i hi => by omega)
      · obtain ⟨p1, p2⟩ := hi.p (by omega) (show j < xs.length by omega)
        refine mTo.so (T_rAt hr (by omega)) ?_
        rw [p2]
        refine mTo.so (T_rAt hr (by omega)) ?_
        obtain ⟨p3, p4⟩ := hi.p (by omega) (show pX xs j < xs.length by omega)
        rw [p4]
        refine mTo.eqI rfl rfl (by omega) (by omega) (fun h3 => mTo.lt ?_) (fun h3 => mTo.ret ⟨⟨fun z => absurd (show (2 : Int32) = 0 from z) (by decide), fun z => absurd (z.2.1 j h) h3⟩, rfl⟩)
        rw [nI_1]
        refine ih0 (j + 1) (by omega) (by omega) (fun i hij => ?_)
        by_cases e : i = j
        · subst e
          exact h3
        · exact hp i (by omega)
    · rw [mX7_judgePairing_go, if_neg (by decide), if_pos rfl]
      unfold mX7_judgePairing_b1
      refine mTo.le rfl rfl (by omega) (by omega) (fun h => ?_) (fun h => ?_)
      · have : j = s := by omega
        subst this
        have := cnt_n (X := fun i => decide (pX xs i = i)) j
        exact mTo.le rfl hb (by omega) (by omega) (fun h3 => mTo.ret ⟨⟨fun _ => ⟨⟨hl, hi⟩, hp, ha, h3⟩, fun _ => rfl⟩, rfl⟩) (fun h3 => mTo.ret ⟨⟨fun z => absurd (show (4 : Int32) = 0 from z) (by decide), fun z => absurd z.2.2.2 (by omega)⟩, rfl⟩)
      · obtain ⟨p1, p2⟩ := hi.p (by omega) (show j < xs.length by omega)
        have hc := cnt_n (X := fun i => decide (pX xs i = i)) j
        have g := ih1 (j + 1) (by omega) (by omega) hp
        rw [cnt] at g
        refine mTo.so (T_rAt hr (by omega)) ?_
        rw [p2]
        refine mTo.eqI rfl rfl (by omega) (by omega) (fun h3 => mTo.lt (mTo.lt ?_)) (fun h3 => mTo.ix rfl (by omega) (by omega) (mTo.so (T_rAt hr (by omega)) ?_))
        · rw [if_pos (decide_eq_true h3)] at g
          rw [nI_1, nI_1]
          refine g (fun i hij => ?_)
          by_cases e : i = j
          · subst e
            exact fun z => absurd h3 z
          · exact ha i (by omega)
        · rw [p2, nI_clamp (by omega), hnr j (by omega)]
          rw [if_neg (by rw [decide_eq_true_eq]; exact h3), Nat.add_zero] at g
          refine mTo.hs rfl rfl (Nat.lt_trans (hnb j) (by decide)) (by omega) (fun h4 => mTo.ret ⟨⟨fun z => absurd (show (3 : Int32) = 0 from z) (by decide), fun z => ?_⟩, rfl⟩) (fun h4 => mTo.lt ?_)
          · have := z.2.2.1 j h h3
            rw [h4] at this
            exact absurd this (by decide)
          · rw [nI_1]
            refine g (fun i hij => ?_)
            by_cases e : i = j
            · subst e
              exact fun _ => h4
            · exact ha i (by omega)
/-- the neighbours by all items -/
def nrA (m : Nat) (A B : Nat → Nat) (v : Nat) : Nat := nearN (fun _ => true) A B m v
theorem T_judgePairing {F e r s m b : Nat} {Ln : Nat → Nat} {A B : Nat → Nat} {d : Nat → Int32} {xs : List Int32} {V : mV} (hF : 2 ^ 22 ≤ F) (he : 256 ≤ e) (hrr : 256 ≤ r) (hs : s ≤ 9) (h0 : 0 < s) (h16 : m ≤ 16) (hq : enQ V e s m (nI b) d) (hb2 : b < 2 ^ 20) (hr : rowIs Ln V r xs) (hd : ∀ i, i < m → d (5 * i) = nI (A i) ∧ d (5 * i + 1) = nI (B i) ∧ A i < s ∧ B i < s) : mTo (mX7_judgePairing F Ln e r V) (fun p => p.1 = 0 ↔ pairOK s (nrA m A B) b xs) := by
  unfold mX7_judgePairing mX7_judgePairing_s
  refine mTo.lt ?_
  rw [hq.1]
  have n := hr.n
  have no : ∀ {P : Prop}, (1 : Int32) = 0 → P := fun z => absurd z (by decide)
  refine mTo.eqI hr.1 rfl (by omega) (by omega) (fun hl => ?_) (fun hl => mTo.ret ⟨fun z => no z, fun z => absurd z.1.1 hl⟩)
  refine mTo.N (T_rWithin (j := 0) (by omega) hr (by omega)) (fun v _ q => mTo.tf q (fun hc => mTo.ret ⟨fun z => no z, fun z => absurd z.1.2 (fun y => hc ((inRow_iff (by omega) h0).mp y))⟩) (fun hc => ?_))
  have hi := (inRow_iff (by omega) h0).mpr hc
  refine mTo.W (T_fillNear (P := fun _ => true) (A := A) (B := B) hF (by omega) (N := 9) rfl (by omega) h16 hq.2.1 (fun i h => ?_) (fun i h => ?_) (fun i h => ?_) (by omega)) (fun v1 V1 _ qq => ?_)
  · rw [hq.2.2.2 _ (by omega), hq.2.2.2 _ (by omega)]
    exact ⟨(hd i h).1, (hd i h).2.1⟩
  · have := hd i h
    omega
  · rw [if_pos rfl]
    exact nb_hasM (by omega)
  · obtain ⟨q1, q2⟩ := qq
    have q1 : ∀ v, v < 9 → V1.rI 19 v = nI (nrA m A B v) := q1
    refine ((T_judgePairing_go (e := e) (b := b) hs (hq.mv q2 (show ¬ e = 19 by omega) (show ¬ e + 1 = 19 by omega)).2.2.1 hb2 (hr.mv q2 (show ¬ r = 19 by omega) (show ¬ r + 1 = 19 by omega)) hl hi q1 (fun i => nearN_lt (N := 9) (fun j hj => by have := hd j hj; omega)) F).1 0 (by omega) (by omega) (fun i hi => by omega)).mono (fun p hp => hp.1)
end
