/-! THE LAW: what is brought back. -/
section
abbrev wBr (i : Nat) : Prop := i = 18 ∨ i = 2048 ∨ i = 2049
/-- the typed row is being written: the rest stays -/
def brI (Ln : Nat → Nat) (V : mV) (L : Nat → Nat) (V1 : mV) (ts : List Int32) : Prop := rowIs L V1 2048 ts ∧ mAv wBr V V1 ∧ mAl wBr Ln L
theorem brI.add {F : Nat} {Ln L : Nat → Nat} {V V1 : mV} {ts : List Int32} {v : Int32} (h : brI Ln V L V1 ts) (hl : ts.length < 1024) : mTo (mX9_add F L 2048 v V1) (fun p => brI Ln V p.2.1 p.2.2 (ts ++ [v])) := by
  refine (T_radd (F := F) (v := v) (by decide) h.1 hl).mono (fun p q => ?_)
  obtain ⟨q1, q2, q3⟩ := q
  exact ⟨q1, mAv.tr h.2.1 q2 (fun i z => by unfold wX9_add at z; rcases z with z | z <;> omega), mAl.tr h.2.2 q3 (fun i z => by unfold wX9_add at z; rcases z with z | z <;> omega)⟩
theorem brI.set {F j : Nat} {Ln L : Nat → Nat} {V V1 : mV} {ts : List Int32} {v : Int32} (h : brI Ln V L V1 ts) (hj : j < ts.length) : mTo (mX9_set F L 2048 (nI j) v V1) (fun p => brI Ln V L p.2 (ts.set j v)) := by
  refine (T_rset (F := F) (v := v) h.1 hj).mono (fun p q => ?_)
  obtain ⟨q1, q2⟩ := q
  exact ⟨q1, mAv.tr h.2.1 q2 (fun i z => by unfold wX9_set at z; omega), h.2.2⟩
theorem brI.en {Ln L : Nat → Nat} {V V1 : mV} {ts : List Int32} {e s m : Nat} {b : Int32} {d : Nat → Int32} (h : brI Ln V L V1 ts) (he : 256 ≤ e) (he2 : e < 544) (hq : enQ V e s m b d) : enQ V1 e s m b d := hq.mv h.2.1 (by omega) (by omega)
theorem brI.row {Ln L : Nat → Nat} {V V1 : mV} {ts xs : List Int32} {r : Nat} (h : brI Ln V L V1 ts) (hr : 256 ≤ r) (hr2 : r < 544) (hR : rowIs Ln V r xs) : rowIs L V1 r xs := hR.mv2 h.2.1 h.2.2 (by omega) (by omega)
theorem T_bringPairs {F o s m r a : Nat} {b : Int32} {d : Nat → Int32} {A B : Nat → Nat} {Ln L0 : Nat → Nat} {V V0 : mV} {row : List Int32} (hF : 64 ≤ F) (ho : 256 ≤ o) (ho2 : o < 544) (hr : 256 ≤ r) (hr2 : r < 544) (hs : s ≤ 9) (hm : m ≤ 16) (ha : a ≤ 9) (hq : enQ V o s m b d) (hd : ∀ i, i < m → d (5 * i) = nI (A i) ∧ d (5 * i + 1) = nI (B i) ∧ A i < s ∧ B i < s) (hR : rowIs Ln V r row) (h0 : brI Ln V L0 V0 []) : mTo (mX4_bringPairs F L0 r (nI a) o 2048 V0) (fun p => brI Ln V p.2.1 p.2.2 (pwR A B (fun j => decide (row.getD (a + j) 0 = 1)) s m)) := by
  have go1 : ∀ k' j L V1, m < j + k' → j ≤ m → brI Ln V L V1 (pwR A B (fun j => decide (row.getD (a + j) 0 = 1)) s j) → mTo (mX4_bringPairs_go F k' 1 L r (nI a) o 2048 (nI j) V1) (fun p => brI Ln V p.2.1 p.2.2 (pwR A B (fun j => decide (row.getD (a + j) 0 = 1)) s m)) := by
    intro k'
    induction k' with
    | zero => intro j L V1 h1 h2; omega
    | succ k' ih =>
      intro j L V1 h1 h2 h
      have q1 := h.en ho ho2 hq
      rw [mX4_bringPairs_go, if_neg (by decide), if_pos rfl]
      unfold mX4_bringPairs_b1
      refine mTo.le q1.2.1 rfl (by omega) (by omega) (fun z => ?_) (fun z => ?_)
      · have ej : j = m := by omega
        subst ej
        exact mTo.ret h
      · obtain ⟨x0, x1, xa, xb⟩ := hd j z
        rw [nI_add]
        refine T_iN (T_rAt (h.row hr hr2 hR) (by omega)) ?_
        refine mTo.ite (fun c => ?_) (fun c => ?_)
        · refine T_iN (T_item q1.2.1 hm z (show 0 < 5 by decide) rfl ((q1.2.2.2 _ (by omega)).trans x0)) ?_
          refine T_iN (T_item q1.2.1 hm z (show 1 < 5 by decide) rfl ((q1.2.2.2 _ (by omega)).trans x1)) ?_
          refine mTo.W (h.set (by rw [pwR_len]; exact xa)) (fun _ V2 _ h2 => ?_)
          have h2 : brI Ln V L V2 ((pwR A B (fun j => decide (row.getD (a + j) 0 = 1)) s j).set (A j) (nI (B j))) := h2
          have q2 := h2.en ho ho2 hq
          refine T_iN (T_item q2.2.1 hm z (show 1 < 5 by decide) rfl ((q2.2.2.2 _ (by omega)).trans x1)) ?_
          refine T_iN (T_item q2.2.1 hm z (show 0 < 5 by decide) rfl ((q2.2.2.2 _ (by omega)).trans x0)) ?_
          refine mTo.W (h2.set (by rw [List.length_set, pwR_len]; exact xb)) (fun _ V3 _ h3 => ?_)
          have h3 : brI Ln V L V3 (((pwR A B (fun j => decide (row.getD (a + j) 0 = 1)) s j).set (A j) (nI (B j))).set (B j) (nI (A j))) := h3
          rw [nI_1]
          refine mTo.lt (ih (j + 1) L V3 (by omega) (by omega) ?_)
          rw [pwR, if_pos (decide_eq_true c)]
          exact h3
        · rw [nI_1]
          refine mTo.lt (ih (j + 1) L V1 (by omega) (by omega) ?_)
          rw [pwR, if_neg (by rw [decide_eq_true_eq]; exact c)]
          exact h
  have go0 : ∀ k' j L V1, s + m + 2 < j + k' → j ≤ s → brI Ln V L V1 ((List.range j).map nI) → mTo (mX4_bringPairs_go F k' 0 L r (nI a) o 2048 (nI j) V1) (fun p => brI Ln V p.2.1 p.2.2 (pwR A B (fun j => decide (row.getD (a + j) 0 = 1)) s m)) := by
    intro k'
    induction k' with
    | zero => intro j L V1 h1 h2; omega
    | succ k' ih =>
      intro j L V1 h1 h2 h
      have q1 := h.en ho ho2 hq
      rw [mX4_bringPairs_go, if_pos rfl]
      unfold mX4_bringPairs_b0
      refine mTo.le q1.1 rfl (by omega) (by omega) (fun z => ?_) (fun z => ?_)
      · have ej : j = s := by omega
        subst ej
        exact go1 k' 0 L V1 (by omega) (Nat.zero_le _) h
      · refine mTo.A (h.add (by rw [List.length_map, List.length_range]; omega)) (fun _ L2 V2 _ h2 => ?_)
        have h2 : brI Ln V L2 V2 ((List.range j).map nI ++ [nI j]) := h2
        rw [nI_1]
        refine mTo.lt (ih (j + 1) L2 V2 (by omega) (by omega) ?_)
        rw [List.range_succ, List.map_append]
        exact h2
  unfold mX4_bringPairs mX4_bringPairs_s
  exact go0 F 0 L0 V0 (by omega) (Nat.zero_le _) h0
theorem T_bringNodes {F o s m r : Nat} {b : Int32} {d : Nat → Int32} {A B : Nat → Nat} {Ln L0 : Nat → Nat} {V V0 : mV} {row : List Int32} (hF : 2 ^ 22 ≤ F) (ho : 256 ≤ o) (ho2 : o < 544) (hr : 256 ≤ r) (hr2 : r < 544) (hs : s ≤ 9) (hm : m ≤ 16) (hq : enQ V o s m b d) (hd : ∀ i, i < m → d (5 * i) = nI (A i) ∧ d (5 * i + 1) = nI (B i) ∧ A i < s ∧ B i < s) (hR : rowIs Ln V r row) (hri : ∀ i, i + 1 < row.length → row.getD i 0 < row.getD (i + 1) 0) (ok : (lfA (nrA m A B) s s).1 &&& (lfA (nrA m A B) s s).2 = 0) (h0 : brI Ln V L0 V0 []) : mTo (mX4_bringNodes F L0 r o 2048 V0) (fun p => brI Ln V p.2.1 p.2.2 (filL (fun v => lfB s m A B v != rowSt row (v + 1)) s)) := by
  have hns : ∀ v, nrA m A B v < 2 ^ s := fun v => nearN_lt (fun i hi => ⟨(hd i hi).2.2.1, (hd i hi).2.2.2⟩)
  have s9 : (2 : Nat) ^ s ≤ 2 ^ 9 := Nat.pow_le_pow_right (by decide) hs
  have lt := lfA_lt hns s (Nat.le_refl _)
  have go : ∀ k' j L V1, s < j + k' → j ≤ s → brI Ln V L V1 (filL (fun v => lfB s m A B v != rowSt row (v + 1)) j) → mTo (mX4_bringNodes_go F k' 0 L r o 2048 (nI (lfA (nrA m A B) s s).1) (nI j) V1) (fun p => brI Ln V p.2.1 p.2.2 (filL (fun v => lfB s m A B v != rowSt row (v + 1)) s)) := by
    intro k'
    induction k' with
    | zero => intro j L V1 h1 h2; omega
    | succ k' ih =>
      intro j L V1 h1 h2 h
      have q1 := h.en ho ho2 hq
      have R1 := h.row hr hr2 hR
      rw [mX4_bringNodes_go, if_pos rfl]
      unfold mX4_bringNodes_b0
      refine mTo.le q1.1 rfl (by omega) (by omega) (fun z => ?_) (fun z => ?_)
      · have ej : j = s := by omega
        subst ej
        exact mTo.ret h
      · rw [nI_1]
        refine mTo.N (T_holds (x := nI (j + 1)) (by omega) R1.1 R1.2.1 R1.L (fun i hi => by rw [R1.2.2.2 i (by omega), R1.2.2.2 (i + 1) hi]; exact hri i hi)) (fun v _ hv => ?_)
        have hv : v = if rowSt row (j + 1) = true then 1 else 0 := by
          rcases hv with ⟨v1, i, i1, i2⟩ | ⟨v0, i1⟩
          · rw [R1.2.2.2 i i1] at i2
            rw [v1, if_pos (rowSt_iff.mpr ⟨i, i1, i2⟩)]
          · rw [v0, if_neg (fun c => by
              obtain ⟨i, i2, i3⟩ := rowSt_iff.mp c
              rw [← R1.2.2.2 i i2] at i3
              exact i1 i i2 i3)]
        refine T_iN (nb_has (by omega) (by omega)) ?_
        rw [hv]
        have e : ((if (lfA (nrA m A B) s s).1.testBit j = true then (1 : Int32) else 0) = if rowSt row (j + 1) = true then 1 else 0) ↔ (lfB s m A B j != rowSt row (j + 1)) = false := by
          show _ ↔ ((lfA (nrA m A B) s s).1.testBit j != rowSt row (j + 1)) = false
          cases (lfA (nrA m A B) s s).1.testBit j <;> cases rowSt row (j + 1) <;> decide
        refine mTo.ite (fun c => mTo.lt (ih (j + 1) L V1 (by omega) (by omega) ?_)) (fun c => ?_)
        · rw [filL, if_neg (by rw [e.mp c]; decide)]
          exact h
        · obtain ⟨_, _, fl⟩ := filL_in (X := fun v => lfB s m A B v != rowSt row (v + 1)) j
          refine mTo.A (h.add (by omega)) (fun _ L2 V2 _ h2 => mTo.lt (ih (j + 1) L2 V2 (by omega) (by omega) ?_))
          have h2 : brI Ln V L2 V2 (filL (fun v => lfB s m A B v != rowSt row (v + 1)) j ++ [nI j]) := h2
          rw [filL, if_pos (by
            cases w : (lfB s m A B j != rowSt row (j + 1)) with
            | true => rfl
            | false => exact absurd (e.mpr w) c)]
          exact h2
  unfold mX4_bringNodes mX4_bringNodes_s
  refine mTo.W (T_leftSide hF ho hs hm (h0.en ho ho2 hq) hd) (fun v V1 _ h => ?_)
  obtain ⟨h1, f1⟩ := h
  have h1 : v = if (lfA (nrA m A B) s s).1 &&& (lfA (nrA m A B) s s).2 = 0 then nI (lfA (nrA m A B) s s).1 else -1 := h1
  have f1 : mAv (fun i => i = 18) V0 V1 := f1
  rw [h1, if_pos ok]
  exact go F 0 L0 V1 (by omega) (Nat.zero_le _) ⟨h0.1.mv f1 (by decide) (by decide), mAv.tr h0.2.1 f1 (fun i z => Or.inl z), h0.2.2⟩
theorem T_bringTail {F e r : Nat} {Ln L0 : Nat → Nat} {V V0 : mV} {row : List Int32} (hF : 4096 ≤ F) (er : r = e + 2) (hr : 256 ≤ r) (hr2 : r < 544) (hR : rowIs Ln V r row) (h0 : brI Ln V L0 V0 []) : mTo (mX4_bringBack_go F F 0 L0 e 2048 (1 : Int32) V0) (fun p => brI Ln V p.2.1 p.2.2 (row.drop 1)) := by
  have n := hR.n
  subst er
  have go : ∀ k' j L V1, row.length + 1 < j + k' → 1 ≤ j → (j ≤ row.length ∨ j = 1) → brI Ln V L V1 ((row.take j).drop 1) → mTo (mX4_bringBack_go F k' 0 L e 2048 (nI j) V1) (fun p => brI Ln V p.2.1 p.2.2 (row.drop 1)) := by
    intro k'
    induction k' with
    | zero => intro j L V1 h1 h2 h3; omega
    | succ k' ih =>
      intro j L V1 h1 h2 h3 h
      have R1 := h.row hr hr2 hR
      rw [mX4_bringBack_go, if_pos rfl]
      unfold mX4_bringBack_b0
      refine mTo.le R1.1 rfl (by omega) (by omega) (fun z => ?_) (fun z => ?_)
      · rw [List.take_of_length_le z] at h
        exact mTo.ret h
      · refine T_iN (T_rAt R1 (by omega)) ?_
        refine mTo.A (h.add (by rw [List.length_drop, List.length_take]; omega)) (fun _ L2 V2 _ h2 => ?_)
        have h2 : brI Ln V L2 V2 ((row.take j).drop 1 ++ [row.getD j 0]) := h2
        rw [nI_1]
        refine mTo.lt (ih (j + 1) L2 V2 (by omega) (by omega) (Or.inl (by omega)) ?_)
        have e1 : row.take (j + 1) = row.take j ++ [row.getD j 0] := by
          rw [List.take_succ_eq_append_getElem z, List.getD_eq_getElem?_getD, List.getElem?_eq_getElem z]
          rfl
        rw [e1, List.drop_append_of_le_length (by rw [List.length_take]; omega)]
        exact h2
  refine go F 1 L0 V0 (by omega) (Nat.le_refl _) (Or.inr rfl) ?_
  have : (row.take 1).drop 1 = [] := by
    cases row with
    | nil => rfl
    | cons a t => rfl
  rw [this]
  exact h0
end
/-! REDUCTIONS: carries over; would be carried so. -/
section
theorem T_cOver {F e k : Nat} {q : qT} {b : Int32} {V : mV} (hF : 2 ^ 34 ≤ F) (he : 256 ≤ e) (he2 : e < 540) (hq : isQn V e q) (h8 : V.fI e 8 = b) (ho : okIt q) (hb : bndQ (Qk q) b) (hk : k < 12) : mTo (mX4_carriesOver F e (nI k) 544 V) (fun p => ((p.1 = 0 ∧ ¬ (k = 1 ∧ Qk q = 0 ∧ okFq q)) ∨ (p.1 = 1 ∧ ∃ dq, isQn p.2 544 dq ∧ crsR q b dq ∧ Qk dq = k ∧ (k = 1 → dq = flq q b))) ∧ mAv wDk V p.2) := by
  have k12 := ho.1
  have main : mTo (mX4_carriesOver F e (nI k) 544 V) (fun p => (p.1 = 0 ∧ ¬ (k = 1 ∧ Qk q = 0 ∧ okFq q)) ∨ (p.1 = 1 ∧ ∃ dq, isQn p.2 544 dq ∧ crsR q b dq ∧ Qk dq = k ∧ (k = 1 → dq = flq q b))) := by
    have cz : ∀ V', ¬ (k = 1 ∧ Qk q = 0 ∧ okFq q) → mTo (some ((0 : Int32), V')) (fun p : Int32 × mV => (p.1 = 0 ∧ ¬ (k = 1 ∧ Qk q = 0 ∧ okFq q)) ∨ (p.1 = 1 ∧ ∃ dq, isQn p.2 544 dq ∧ crsR q b dq ∧ Qk dq = k ∧ (k = 1 → dq = flq q b))) := fun V' h => mTo.ret (Or.inl ⟨rfl, h⟩)
    have en := hq.en h8
    have gd : ∀ (v : Int32) (V' : mV), (v = 0 ∨ v = 1) → ((v = 0 ∧ ¬ (k = 1 ∧ Qk q = 0 ∧ okFq q)) ∨ (v = 1 ∧ ∃ dq, isQn V' 544 dq ∧ crsR q b dq ∧ Qk dq = k ∧ (k = 1 → dq = flq q b))) → mTo (if ¬ ((v = 0 ∨ v = 1)) then none else some (v, V')) (fun p : Int32 × mV => (p.1 = 0 ∧ ¬ (k = 1 ∧ Qk q = 0 ∧ okFq q)) ∨ (p.1 = 1 ∧ ∃ dq, isQn p.2 544 dq ∧ crsR q b dq ∧ Qk dq = k ∧ (k = 1 → dq = flq q b))) := fun v V' hv h => by
      rw [if_neg (fun c => c hv)]
      exact mTo.ret h
    have edges : Qk q = 0 → k = 4 → mTo (mBW (mX4_carriesEdges F e 544 V) fun v4 V5 => (if ¬ ((v4 = 0 ∨ v4 = 1)) then none else some (v4, V5))) (fun p => (p.1 = 0 ∧ ¬ (k = 1 ∧ Qk q = 0 ∧ okFq q)) ∨ (p.1 = 1 ∧ ∃ dq, isQn p.2 544 dq ∧ crsR q b dq ∧ Qk dq = k ∧ (k = 1 → dq = flq q b))) := fun q0 k4 => by
      obtain ⟨⟨s1, s2, m16⟩, hd, _⟩ := m_items ho q0
      have hb' := hb
      rw [q0] at hb'
      have b1 : 0 ≤ b.toInt := hb'.1
      have b2 : b.toInt ≤ 9 := hb'.2
      obtain ⟨c, ec, c1, c2⟩ := nat_b (b := b) (n := 9) (by omega) (by omega)
      rw [ec] at en
      refine mTo.W (T_cEdge (A := qmA q) (B := qmB q) (by omega) he he2 (by omega) s2 m16 c1 en hd) (fun v V1 _ h => ?_)
      rcases h with ⟨h1, c0, m1, m6, dq, d1, d2, d3⟩ | h1
      · have h1 : v = 1 := h1
        exact gd v V1 (Or.inr h1) (Or.inr ⟨h1, dq, d1, cr_s ho q0 hb (by rw [ec, c0]; rfl) m1 m6 d2 d3, by rw [d3.1, k4], fun z => by omega⟩)
      · have h1 : v = 0 := h1
        exact gd v V1 (Or.inl h1) (Or.inl ⟨h1, fun z => by omega⟩)
    have go : ∀ k', 1 ≤ k' → ¬ (k = 1 ∧ Qk q = 0 ∧ okFq q) → mTo (mX4_carriesOver_go F k' 0 e (nI k) 544 V) (fun p => (p.1 = 0 ∧ ¬ (k = 1 ∧ Qk q = 0 ∧ okFq q)) ∨ (p.1 = 1 ∧ ∃ dq, isQn p.2 544 dq ∧ crsR q b dq ∧ Qk dq = k ∧ (k = 1 → dq = flq q b))) := fun k' h1 hn => by
      obtain ⟨k', rfl⟩ : ∃ z, k' = z + 1 := ⟨k' - 1, by omega⟩
      rw [mX4_carriesOver_go, if_pos rfl]
      unfold mX4_carriesOver_b0
      refine mTo.eqI (b := 1) hq.1 rfl (by omega) (by decide) (fun q1 => ?_) (fun q1 => ?_)
      · refine mTo.eqI (a := k) (b := 3) rfl rfl (by omega) (by decide) (fun k3 => ?_) (fun _ => ?_)
        · obtain ⟨y, y1, y2, y3, y4⟩ := f_items ho q1
          have hb' := hb
          rw [q1] at hb'
          have b1 : 0 ≤ b.toInt := hb'.1
          have b2 : b.toInt ≤ 60 := hb'.2
          obtain ⟨c, ec, c1, c2⟩ := nat_b (b := b) (n := 60) (by omega) (by omega)
          rw [ec, y1] at en
          refine mTo.W (T_cFlow (by omega) he he2 y2 y3 en y4) (fun v V1 _ h => ?_)
          rcases h with ⟨h1, m1, m4, M12, d1⟩ | h1
          · have h1 : v = 1 := h1
            refine gd v V1 (Or.inr h1) (Or.inr ⟨h1, _, d1, ?_, k3.symm, fun z => by omega⟩)
            have := cr_l ho q1 hb y1 y2 y4 m1 m4 M12
            rw [c2] at this
            exact this
          · have h1 : v = 0 := h1
            exact gd v V1 (Or.inl h1) (Or.inl ⟨h1, fun z => by omega⟩)
        · refine mTo.eqI (b := 0) hq.1 rfl (by omega) (by decide) (fun z => by omega) (fun _ => cz V hn)
      · refine mTo.eqI (b := 0) hq.1 rfl (by omega) (by decide) (fun q0 => ?_) (fun _ => cz V hn)
        refine mTo.eqI (a := k) (b := 4) rfl rfl (by omega) (by decide) (fun k4 => edges q0 k4) (fun _ => cz V hn)
    unfold mX4_carriesOver mX4_carriesOver_s
    refine mTo.eqI (b := 0) hq.1 rfl (by omega) (by decide) (fun q0 => ?_) (fun q0 => go F (by omega) (fun z => q0 z.2.1))
    refine mTo.eqI (a := k) (b := 1) rfl rfl (by omega) (by decide) (fun k1 => ?_) (fun k1 => go F (by omega) (fun z => k1 z.1))
    obtain ⟨⟨s1, s2, m16⟩, hd, _⟩ := m_items ho q0
    have hb' := hb
    rw [q0] at hb'
    have b1 : 0 ≤ b.toInt := hb'.1
    have b2 : b.toInt ≤ 9 := hb'.2
    obtain ⟨c, ec, c1, c2⟩ := nat_b (b := b) (n := 9) (by omega) (by omega)
    rw [ec] at en
    refine mTo.W (T_cPair (A := qmA q) (B := qmB q) (by omega) he he2 (by omega) s2 m16 c1 en hd) (fun v V1 _ h => ?_)
    rcases h with ⟨ok, h1, d1⟩ | ⟨ok, h1⟩
    · have h1 : v = 1 := h1
      refine gd v V1 (Or.inr h1) (Or.inr ⟨h1, flq q b, ?_, cr_f ho q0 hb ok, k1.symm, fun _ => rfl⟩)
      show isQn V1 544 (flQ (Qs q) (Qm q) b.toNatClampNeg (qmA q) (qmB q) (lfB (Qs q) (Qm q) (qmA q) (qmB q)))
      rw [c2]
      exact d1
    · have h1 : v = 0 := h1
      exact gd v V1 (Or.inl h1) (Or.inl ⟨h1, fun z => ok z.2.2⟩)
  obtain ⟨p, e1, h⟩ := main
  exact ⟨p, e1, h, NX4_carriesOver (v := p.1) e1⟩
/-- the same question, as far as the draft goes -/
theorem T_sameQ {F e : Nat} {V : mV} {dq q : qT} {b : Int32} (hF : 2 ^ 20 ≤ F) (hd : isQn V 544 dq) (hq : isQn V e q) (h8 : V.fI e 8 = b) (hm : Qm q ≤ 16) (hs : Qs q < 2 ^ 20) (hs2 : Qs dq < 2 ^ 20) (hm2 : Qm dq ≤ 16) (hk : Qk dq = Qk q) : mTo (mX3_isSameQuestion F 544 e V) (fun v => (v = 1 ∧ dq.1 = q.1 ∧ Qb dq = b) ∨ (v = 0 ∧ ¬ (dq.1 = q.1 ∧ Qb dq = b))) := by
  have go : ∀ k' j, 5 * Qm q < j + k' → j ≤ 5 * Qm q → Qs dq = Qs q → Qm dq = Qm q → Qb dq = b → (∀ i, i < j → Qd dq i = Qd q i) → mTo (mX3_isSameQuestion_go F k' 0 544 e (nI j) V) (fun v => (v = 1 ∧ dq.1 = q.1 ∧ Qb dq = b) ∨ (v = 0 ∧ ¬ (dq.1 = q.1 ∧ Qb dq = b))) := by
    intro k'
    induction k' with
    | zero => intro j h1 h2; omega
    | succ k' ih =>
      intro j h1 h2 es em eb hi
      have fin : (∀ i, i < 5 * Qm q → Qd dq i = Qd q i) → dq.1 = q.1 := fun h => by
        obtain ⟨⟨k1, s1, m1, d1⟩, r1⟩ := dq
        obtain ⟨⟨k2, s2, m2, d2⟩, r2⟩ := q
        have hk : k1 = k2 := hk
        have es : s1 = s2 := es
        have em : m1 = m2 := em
        subst hk
        subst es
        subst em
        have h : ∀ i, i < 5 * m1 → d1 i = d2 i := h
        have x1 : ∀ j, 5 * m1 ≤ j → d1 j = 0 := hd.2.2.2.2.2.2.2.2
        have x2 : ∀ j, 5 * m1 ≤ j → d2 j = 0 := hq.2.2.2.2.2.2.2.2
        have : d1 = d2 := funext (fun i => by
          by_cases c : i < 5 * m1
          · exact h i c
          · rw [x1 i (Nat.le_of_not_lt c), x2 i (Nat.le_of_not_lt c)])
        rw [this]
      rw [mX3_isSameQuestion_go, if_pos rfl]
      unfold mX3_isSameQuestion_b0
      rw [hd.2.2.2.2.2.2.1, em, show (5 : Int32) = nI 5 from rfl, nI_mulC]
      refine mTo.le rfl rfl (by omega) (by omega) (fun z => mTo.ret (Or.inl ⟨rfl, fin (fun i hi' => hi i (by omega)), eb⟩)) (fun z => ?_)
      refine mTo.le (a := 80) rfl rfl (by decide) (by omega) (fun z => by omega) (fun z2 => ?_)
      refine mTo.ix rfl (show j < 80 by omega) (by decide) (mTo.ix rfl (show j < 80 by omega) (by decide) ?_)
      rw [nI_clamp (by omega), hd.2.2.2.2.2.2.2.1 j (by omega), hq.2.2.2.2.2.2.2.1 j (by omega), nI_1]
      refine mTo.ite (fun c => mTo.lt (ih (j + 1) (by omega) (by omega) es em eb (fun i hi' => ?_))) (fun c => mTo.ret (Or.inr ⟨rfl, fun w => c (congrArg (fun t => t.2.2.2 j) w.1)⟩))
      by_cases ci : i = j
      · rw [ci]
        exact c
      · exact hi i (by omega)
  unfold mX3_isSameQuestion mX3_isSameQuestion_s
  refine mTo.eqI hd.2.1 hq.2.1 (by omega) (by omega) (fun es => ?_) (fun ns => mTo.ret (Or.inr ⟨rfl, fun w => ns (congrArg (fun t => t.2.1) w.1)⟩))
  rw [hd.2.2.1, h8]
  refine mTo.ite (fun eb => ?_) (fun nb => mTo.ret (Or.inr ⟨rfl, fun w => nb w.2⟩))
  refine mTo.eqI hd.2.2.2.2.2.2.1 hq.2.2.2.2.2.2.1 (by omega) (by omega) (fun em => ?_) (fun nm => mTo.ret (Or.inr ⟨rfl, fun w => nm (congrArg (fun t => t.2.2.1) w.1)⟩))
  exact go F 0 (by omega) (by omega) es em eb (fun i hi => absurd hi (Nat.not_lt_zero _))
theorem bST.dk {Ln : Nat → Nat} {V V1 : mV} {n : Nat} {Q : Nat → qT} (h : bST Ln V n Q) (a : mAv wDk V V1) : bST Ln V1 n Q ∧ ∀ x, x < n → frs V Q x → frs V1 Q x := by
  obtain ⟨h1, h2⟩ := h.1.fr a (mAl.rf (w := wDk)) (by rw [(a.1 0 (by omega)).1]) (fun i _ h2 _ c => by omega)
  exact ⟨⟨h1, h.2.1.fr a (mAl.rf (w := wDk)) (by omega) (by omega) (by omega) ⟨by omega, by omega⟩ (fun j hj => ⟨by omega, by omega⟩) (fun z hz => by omega), h.2.2⟩, h2⟩
/-- the entry e asks what o would become -/
def cmQ (Q : Nat → qT) (o e : Nat) : Prop := ∃ dq, crsR (Q o) (bnd Q o) dq ∧ dq.1 = (Q e).1 ∧ Qb dq = bnd Q e
theorem T_wouldBe {F n e : Nat} {Q : Nat → qT} {Ln : Nat → Nat} {V : mV} (hF : 2 ^ 34 ≤ F) (hI : bST Ln V n Q) (hj : e < n) (hf : frs V Q e) (hfo : ∀ o, o < n → Qo (Q e) = nI o → frs V Q o) : mTo (mX11_wouldBeCarriedSo F (256 + 8 * e) V) (fun p => ((p.1 = 0 ∧ ∀ o, o < n → Qo (Q e) = nI o → Qk (Q o) = 0 → Qk (Q e) = 1 → okFq (Q o) → (flq (Q o) (bnd Q o)).1 = (Q e).1 → Qb (flq (Q o) (bnd Q o)) = bnd Q e → False) ∨ (p.1 = 1 ∧ ∃ o, o < n ∧ Qo (Q e) = nI o ∧ cmQ Q o e)) ∧ mAv wDk V p.2) := by
  have n12 := hI.1.1.2.1
  obtain ⟨qa, qb, qc⟩ := hI.1.1.2.2.1 e hj
  obtain ⟨_, _, _, v4, v5, _⟩ := frs_val hI.1 hj hf
  have q5 : V.fI (256 + 8 * e) 5 = Qo (Q e) := qa.2.2.2.2.2.1
  unfold mX11_wouldBeCarriedSo
  rcases hI.2.2 e hj with neg | ⟨o, on, eo⟩
  · rw [q5, if_neg (fun c => by
      have a := i32le.mp c
      have d := i32lt.mp neg
      omega)]
    refine mTo.ret ⟨Or.inl ⟨rfl, fun o on eo => ?_⟩, mAv.rf⟩
    rw [eo] at neg
    exact absurd neg (nI_nn (by omega))
  · rw [q5.trans eo, if_pos (i32le.mpr (by rw [nI_toInt (by omega)]; exact Int.natCast_nonneg _))]
    refine mTo.ix rfl (show o < 12 by omega) (by decide) ?_
    rw [nI_clamp (by omega), v4.1]
    obtain ⟨_, _, _, w4, w5, w6⟩ := frs_val hI.1 on (hfo o on eo)
    obtain ⟨oa, ob, oc⟩ := hI.1.1.2.2.1 o on
    have bo := bnd_b n12 on hI.1.1.2.2.2 ob.1 oc
    refine mTo.W (T_cOver hF (by omega) (by omega) w4 (hfo o on eo).1 ob bo qb.1) (fun v V1 _ h => ?_)
    obtain ⟨h, f1⟩ := h
    have f1 : mAv wDk V V1 := f1
    have uq : ∀ o', o' < n → Qo (Q e) = nI o' → o' = o := fun o' h1 h2 => ((nI_eq (by omega) (by omega)).mp (eo.symm.trans h2)).symm
    rcases h with ⟨h1, h2⟩ | ⟨h1, dq, d1, d2, d3, d4⟩
    · have h1 : v = 0 := h1
      rw [if_pos h1]
      refine mTo.ret ⟨Or.inl ⟨rfl, fun o' o1 o2 k0 k1 ok _ _ => ?_⟩, f1⟩
      rw [uq o' o1 o2] at k0 ok
      exact h2 ⟨k1, k0, ok⟩
    · have h1 : v = 1 := h1
      rw [h1, if_neg (by decide)]
      have q1 : isQn V1 (256 + 8 * e) (Q e) := qa.mv (fun x _ => by rw [(f1.1 _ (by omega)).1]) (f1.1 _ (by omega)).2.2.1
      refine mTo.N (T_sameQ (b := bnd Q e) (by omega) d1 q1 (by rw [(f1.1 _ (by omega)).1]; exact hf.1) qb.m16 (by have := qb.s9; omega) (by have := d2.1.s9; omega) d2.1.m16 d3) (fun w _ hw => ?_)
      rcases hw with ⟨w1, w2, w3⟩ | ⟨w1, w2⟩
      · rw [w1, if_neg (by decide)]
        exact mTo.ret ⟨Or.inr ⟨rfl, o, on, eo, dq, d2, w2, w3⟩, f1⟩
      · rw [w1, if_pos rfl]
        refine mTo.ret ⟨Or.inl ⟨rfl, fun o' o1 o2 k0 k1 ok e1 e2 => ?_⟩, f1⟩
        rw [uq o' o1 o2] at e1 e2
        rw [d4 k1] at w2
        exact w2 ⟨e1, e2⟩
end
/-! THE LAW: it is sound. -/
section
theorem cm_rp {Q : Nat → qT} {o e : Nat} (h : cmQ Q o e) : aRp (Q e) (bnd Q e) = aRp (Q o) (bnd Q o) := by
  obtain ⟨dq, d, e1, e2⟩ := h
  rw [← d.2.2.2.1, e2]
  unfold aRp
  rw [ansT_c e1]
theorem T_soundE {F n e : Nat} {Q : Nat → qT} {Ln : Nat → Nat} {V : mV} (hF : 2 ^ 34 ≤ F) (hI : bST Ln V n Q) (hj : e < n) (hf : ∀ x, x < n → frs V Q x) : mTo (mX11_isSoundEntry F Ln (256 + 8 * e) V) (fun p => p.1 = 1 ∧ bST Ln p.2 n Q ∧ ∀ x, x < n → frs p.2 Q x) := by
  obtain ⟨v1, v2, v3, v4, v5, v6⟩ := frs_val hI.1 hj (hf e hj)
  obtain ⟨w1, w2, w3, w4, _⟩ := v6
  have n12 := hI.1.1.2.1
  have body : ∀ w : Int32, (if w = 0 then aNo (Q e) (bnd Q e) (aRw (Q e) (bnd Q e)) else aYs (Q e) (bnd Q e) (aRw (Q e) (bnd Q e))) → mTo (mBW (mX4_judge F Ln (256 + 8 * e) (256 + 8 * e + 2) w V) fun v17 V18 => (if v17 = 0 then (mBW (mX11_wouldBeCarriedSo F (256 + 8 * e) V18) fun v23 V24 => (if v23 = 0 then some ((1 : Int32), V24) else (if (V24.fI (256 + 8 * e) 5) < 0 ∨ 12 ≤ ((V24.fI (256 + 8 * e) 5)).toNatClampNeg then none else (if (V24.fI (256 + 8 * ((V24.fI (256 + 8 * e) 5)).toNatClampNeg) 11) = (V24.fI (256 + 8 * e) 11) then some ((1 : Int32), V24) else some ((0 : Int32), V24))))) else some ((0 : Int32), V18))) (fun p => p.1 = 1 ∧ bST Ln p.2 n Q ∧ ∀ x, x < n → frs p.2 Q x) := fun w hw => by
    refine mTo.W (T_judgeAt (w := w) hF hI.1 hj (hf e hj) (by omega) v3) (fun v V1 _ h => ?_)
    obtain ⟨_, h1, k1, _⟩ := h
    have h1 : v = 0 ↔ if w = 0 then aNo (Q e) (bnd Q e) (aRw (Q e) (bnd Q e)) else aYs (Q e) (bnd Q e) (aRw (Q e) (bnd Q e)) := h1
    have k1 : lkP Ln V n Q Ln V1 := k1
    have I1 := lkP.st hI k1
    have f1 : ∀ x, x < n → frs V1 Q x := fun x hx => k1.2.2 x hx (hf x hx)
    rw [if_pos (h1.mpr hw)]
    refine mTo.W (T_wouldBe hF I1 hj (f1 e hj) (fun o on _ => f1 o on)) (fun v2 V2 _ h => ?_)
    obtain ⟨h, fr⟩ := h
    have fr : mAv wDk V1 V2 := fr
    obtain ⟨I2, f2⟩ := I1.dk fr
    have f2 : ∀ x, x < n → frs V2 Q x := fun x hx => f2 x hx (f1 x hx)
    rcases h with ⟨h, _⟩ | ⟨h, o, on, eo, cm⟩
    · have h : v2 = 0 := h
      rw [if_pos h]
      exact mTo.ret ⟨rfl, I2, f2⟩
    · have h : v2 = 1 := h
      rw [h, if_neg (by decide)]
      obtain ⟨x1, _, _, x4, _⟩ := frs_val I2.1 hj (f2 e hj)
      obtain ⟨y1, _⟩ := frs_val I2.1 on (f2 o on)
      rw [x4.2.2.2.2.2.1, eo]
      refine mTo.ix rfl (show o < 12 by omega) (by decide) ?_
      rw [nI_clamp (by omega), y1, x1, if_pos (cm_rp cm).symm]
      exact mTo.ret ⟨rfl, I2, f2⟩
  unfold mX11_isSoundEntry
  rw [v1]
  refine mTo.ite (fun h => body 1 ?_) (fun h => body 0 ?_)
  · rw [if_neg (by decide)]
    exact w2 h
  · rw [if_pos rfl]
    exact w3 (w1.resolve_left h)
theorem T_isSoundI {F n : Nat} {Q : Nat → qT} {Ln : Nat → Nat} {V : mV} (hF : 2 ^ 34 ≤ F) (hI : bST Ln V n Q) : mTo (mX11_isSound F Ln V) (fun p => p.1 = .inr 1 ∧ bAt Ln 0 n Q p.2.1 p.2.2) := by
  have n12 := hI.1.1.2.1
  have go2 : ∀ k' u c L V1, c < u + k' → u ≤ c → c ≤ 16 → V1.fI 0 15 = nI c → bAt Ln 0 n Q L V1 → (∀ x, x < n → frs V1 Q x) → mTo (mX11_isSound_go F k' 2 L (nI u) V1) (fun p => p.1 = .inr 1 ∧ bAt Ln 0 n Q p.2.1 p.2.2) := by
    intro k'
    induction k' with
    | zero => intro u c L V1 h1 h2; omega
    | succ k' ih =>
      intro u c L V1 h1 h2 c16 hc hA hf
      rw [mX11_isSound_go, if_neg (by decide), if_neg (by decide), if_pos rfl]
      unfold mX11_isSound_b2
      refine mTo.le hc rfl (by omega) (by omega) (fun _ => mTo.ret ⟨rfl, hA⟩) (fun z => ?_)
      refine mTo.ix rfl (show u < 16 by omega) (by decide) ?_
      rw [nI_clamp (by omega)]
      refine mTo.W (T_unsC hF hA.1 hf hc z c16) (fun v V2 _ h => ?_)
      obtain ⟨h1, h2, h3, _⟩ := h
      have h1 : v = 0 := h1
      have h2 : lkP L V1 n Q L V2 := h2
      have h3 : V2.fI 0 = V1.fI 0 := h3
      rw [if_pos h1, nI_1]
      exact mTo.lt (ih (u + 1) c L V2 (by omega) (by omega) c16 (by rw [h3, hc]) ⟨lkP.st hA.1 h2, hA.2.1, hA.2.2⟩ (fun x hx => h2.2.2 x hx (hf x hx)))
  have go1 : ∀ k' e L V1, n + 20 < e + k' → e ≤ n → bAt Ln 0 n Q L V1 → (∀ x, x < n → frs V1 Q x) → mTo (mX11_isSound_go F k' 1 L (nI e) V1) (fun p => p.1 = .inr 1 ∧ bAt Ln 0 n Q p.2.1 p.2.2) := by
    intro k'
    induction k' with
    | zero => intro e L V1 h1 h2; omega
    | succ k' ih =>
      intro e L V1 h1 h2 hA hf
      rw [mX11_isSound_go, if_neg (by decide), if_pos rfl]
      unfold mX11_isSound_b1
      refine mTo.le hA.1.1.1.1 rfl (by omega) (by omega) (fun _ => ?_) (fun z => ?_)
      · obtain ⟨c, c1, c2, _⟩ := hA.1.2.1.2.2.2.1
        exact go2 k' 0 c L V1 (by omega) (Nat.zero_le _) c2 c1 hA hf
      · refine mTo.ix rfl (show e < 12 by omega) (by decide) ?_
        rw [nI_clamp (by omega)]
        refine mTo.W (T_soundE hF hA.1 z hf) (fun v V2 _ h => ?_)
        obtain ⟨h1, h2, h3⟩ := h
        have h1 : v = 1 := h1
        rw [h1, if_neg (by decide), nI_1]
        exact mTo.lt (ih (e + 1) L V2 (by omega) (by omega) ⟨h2, hA.2.1, hA.2.2⟩ h3)
  have go0 : ∀ k' e L V1, n + n + 30 < e + k' → e ≤ n → bAt Ln 0 n Q L V1 → (∀ x, x < e → frs V1 Q x) → mTo (mX11_isSound_go F k' 0 L (nI e) V1) (fun p => p.1 = .inr 1 ∧ bAt Ln 0 n Q p.2.1 p.2.2) := by
    intro k'
    induction k' with
    | zero => intro e L V1 h1 h2; omega
    | succ k' ih =>
      intro e L V1 h1 h2 hA hf
      rw [mX11_isSound_go, if_pos rfl]
      unfold mX11_isSound_b0
      refine mTo.le hA.1.1.1.1 rfl (by omega) (by omega) (fun z => ?_) (fun z => ?_)
      · have ee : e = n := by omega
        subst ee
        exact go1 k' 0 L V1 (by omega) (Nat.zero_le _) hA hf
      · refine T_rfB hF hA.1.1 z (fun L2 V2 r i f g => ?_)
        rw [nI_1]
        have lk : lkP L V1 n Q L2 V2 := ⟨r, i, g⟩
        refine mTo.lt (ih (e + 1) L2 V2 (by omega) (by omega) (hA.tr (lkP.at hA.1 lk) (Nat.le_refl _)) (fun x hx => ?_))
        by_cases c : x = e
        · rw [c]
          exact f
        · exact g x (by omega) (hf x (by omega))
  unfold mX11_isSound mX11_isSound_s
  exact go0 F 0 Ln V (by omega) (Nat.zero_le _) ⟨hI, Nat.le_refl _, rfl⟩ (fun x hx => absurd hx (Nat.not_lt_zero _))
theorem T_isSound {G : wkG} {F n : Nat} {Q : Nat → qT} {Ln : Nat → Nat} {V : mV} (hF : 2 ^ 34 ≤ F) (hI : bST Ln V n Q) : mTo (mL_isSound G F Ln V) (fun p => p.1 = 1 ∧ bAt Ln 0 n Q p.2.1 p.2.2) := by
  unfold mL_isSound
  refine mTo.B (T_isSoundI hF hI) (fun v L V1 _ h => ?_) (fun y L V1 _ h => ?_)
  · obtain ⟨h1, h2⟩ := h
    have h1 := Sum.inr.inj h1
    rw [h1, if_neg (by decide)]
    exact mTo.ret ⟨rfl, h2⟩
  · obtain ⟨h1, _⟩ := h
    cases h1
end
