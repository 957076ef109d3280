/-! THE PURE PART, drawings: the machine loads an edge set. -/
section
/-- what an item of the kind is -/
def qP (d : Nat → Int32) (s m : Nat) (A B : Nat → Nat) : Prop := (∀ i, i < m → d (5 * i) = nI (A i) ∧ d (5 * i + 1) = nI (B i) ∧ A i < s ∧ B i < s ∧ A i ≠ B i) ∧ ∀ i j, i < m → j < m → (A i = A j ∧ B i = B j ∨ A i = B j ∧ B i = A j) → i = j
theorem near_gph {P : Nat → Bool} {d : Nat → Int32} {s m : Nat} {A B : Nat → Nat} (hs : s ≤ 7) (hm : m ≤ 11) (hd : qP d s m A B) : gph (nearN P A B m) s := by
  obtain ⟨h1, h2⟩ := hd
  refine ⟨hs, fun u v _ _ => nearN_sym, fun u hu => ?_, fun u => nearN_lt (N := 7) (fun i hi => by have := h1 i hi; omega), fun u hu => nb_ext fun v => ?_, ?_⟩
  · cases e : (nearN P A B m u).testBit u with
    | false => rfl
    | true =>
      obtain ⟨i, i1, _, i3⟩ := (nearN_bit m).mp e
      have := h1 i i1
      omega
  · rw [Nat.zero_testBit]
    cases e : (nearN P A B m u).testBit v with
    | false => rfl
    | true =>
      obtain ⟨i, i1, _, i3⟩ := (nearN_bit m).mp e
      have := h1 i i1
      omega
  · have e : cnt (gngb (nearN P A B m)) 49 = sdN (nearN P A B m) 7 := sdN_e (nb := nearN P A B m) 7 (by decide)
    have ex : ∀ x, ∃ i, gngb (nearN P A B m) x = true → i < m ∧ (A i = x / 7 ∧ B i = x % 7 ∨ B i = x / 7 ∧ A i = x % 7) := fun x => by
      by_cases c : gngb (nearN P A B m) x = true
      · obtain ⟨i, i1, _, i3⟩ := (nearN_bit m).mp (gngb_t.mp c).2
        exact ⟨i, fun _ => ⟨i1, i3⟩⟩
      · exact ⟨0, fun h => absurd h c⟩
    have le := cnt_inj (X := gngb (nearN P A B m)) (Y := fun _ => true) (f := fun x => 2 * Classical.choose (ex x) + (if A (Classical.choose (ex x)) = x / 7 then 0 else 1)) (m := 2 * m) 49 (fun x _ hx => by
      have := (Classical.choose_spec (ex x) hx).1
      refine ⟨?_, rfl⟩
      split <;> omega) (fun x y hx49 hy49 hx hy e => by
      have a := Classical.choose_spec (ex x) hx
      have b := Classical.choose_spec (ex y) hy
      obtain ⟨i, hi⟩ : ∃ i, i = Classical.choose (ex x) := ⟨_, rfl⟩
      obtain ⟨j, hj⟩ : ∃ j, j = Classical.choose (ex y) := ⟨_, rfl⟩
      rw [← hi, ← hj] at e
      rw [← hi] at a
      rw [← hj] at b
      have ab := (h1 i a.1).2.2.2.2
      by_cases c1 : A i = x / 7
      · rw [if_pos c1] at e
        by_cases c2 : A j = y / 7
        · rw [if_pos c2] at e
          have eij : i = j := by omega
          subst eij
          have : B i = x % 7 := a.2.elim (fun z => z.2) (fun z => absurd (c1.trans z.1.symm) ab)
          have : B i = y % 7 := b.2.elim (fun z => z.2) (fun z => absurd (c2.trans z.1.symm) ab)
          omega
        · rw [if_neg c2] at e
          omega
      · rw [if_neg c1] at e
        have xs := a.2.resolve_left (fun z => c1 z.1)
        by_cases c2 : A j = y / 7
        · rw [if_pos c2] at e
          omega
        · rw [if_neg c2] at e
          have ys := b.2.resolve_left (fun z => c2 z.1)
          have eij : i = j := by omega
          subst eij
          omega)
    rw [cnt_T] at le
    omega
/-- half loaded: q places, first places of j nodes, what is due of k nodes -/
def ldE (V : mV) (nb : Nat → Nat) (s q j k : Nat) : Prop := V.fI 3 8 = nI s ∧ V.fI 3 9 = nI q ∧ (∀ u, u < 7 → V.rI 27 u = nI (nb u)) ∧ (∀ u, u < 7 → V.rI 28 u = 0) ∧ (∀ u, u < j → V.rI 29 u = nI (sdN nb u)) ∧ (∀ p, p < q → V.rI 30 p = nI (owN nb p)) ∧ ∀ u, u < k → V.rI 33 u = dueI nb u
theorem T_lE_go {F s : Nat} {nb : Nat → Nat} (hF : 2 ^ 10 ≤ F) (hg : gph nb s) : ∀ k', (∀ j (V : mV), (s - j) * 30 + 1 ≤ k' → j ≤ s → ldE V nb s (sdN nb j) j j → mTo (mX2_loadEdges_go F k' 0 (nI j) 0 V) (fun r => edS r.2 nb s ∧ ∀ u, u < 7 → r.2.rI 28 u = 0)) ∧ (∀ j i (V : mV), (s - j - 1) * 30 + i + 3 ≤ k' → j < s → i ≤ degN nb j → ldE V nb s (sdN nb j + (degN nb j - i)) (j + 1) j → mTo (mX2_loadEdges_go F k' 1 (nI j) (nI i) V) (fun r => edS r.2 nb s ∧ ∀ u, u < 7 → r.2.rI 28 u = 0)) := by
  obtain ⟨g1, g2, g3, g4, g5, g6⟩ := id hg
  intro k'
  induction k' with
  | zero => exact ⟨fun j V h => by omega, fun j i V h => by omega⟩
  | succ k ih =>
    obtain ⟨ih0, ih1⟩ := ih
    refine ⟨fun j V h1 h2 hE => ?_, fun j i V h1 h2 h3 hE => ?_⟩
    · obtain ⟨a1, a2, a3, a4, a5, a6, a7⟩ := hE
      rw [mX2_loadEdges_go, if_pos rfl]
      unfold mX2_loadEdges_b0
      refine mTo.le a1 rfl (by omega) (by omega) (fun z => mTo.ret ⟨⟨a1, ?_, a3, fun u hu => a5 u (by omega), ?_, fun u hu => a7 u (by omega)⟩, a4⟩) (fun z => mTo.ix rfl (by omega) (by omega) (mTo.lt (mTo.ix rfl (by omega) (by omega) ?_)))
      · have e := sdN_cut (nb := nb) (a := s) (fun u hu => g5 u hu) (7 - s)
        rw [show s + (7 - s) = 7 by omega] at e
        have ej : j = s := by omega
        rw [ej] at a2
        show V.fI 3 9 = nI (sdN nb 7)
        rw [a2, e]
      · have e := sdN_cut (nb := nb) (a := s) (fun u hu => g5 u hu) (7 - s)
        rw [show s + (7 - s) = 7 by omega] at e
        have ej : j = s := by omega
        intro p hp
        exact a6 p (by rw [ej]; omega)
      · rw [nI_clamp (n := j) (by omega), mI_no (by decide), a3 j (by omega)]
        have lt := g4 j
        refine mTo.so (T_pop (by omega)) ?_
        rw [pop_deg rfl lt]
        refine ih1 j (degN nb j) _ (by have := degN_le (nb := nb) (u := j); omega) z (Nat.le_refl _) ⟨a1, by rw [Nat.sub_self]; exact a2, fun u hu => ?_, fun u hu => ?_, fun u hu => ?_, fun p hp => ?_, fun u hu => ?_⟩
        · rw [mI_no (by decide)]; exact a3 u hu
        · rw [mI_no (by decide)]; exact a4 u hu
        · rw [mI_at (nI_clamp (n := j) (by omega))]
          by_cases c : u = j
          · rw [if_pos c, a2, c]
          · rw [if_neg c]
            exact a5 u (by omega)
        · rw [mI_no (by decide)]
          exact a6 p (by omega)
        · rw [mI_no (by decide)]; exact a7 u hu
    · obtain ⟨a1, a2, a3, a4, a5, a6, a7⟩ := hE
      have en : sdN nb (j + 1) = sdN nb j + degN nb j := rfl
      have sm := sdN_mono (nb := nb) (a := j + 1) 7 (by omega)
      rw [mX2_loadEdges_go, if_neg (by decide), if_pos rfl]
      unfold mX2_loadEdges_b1
      refine mTo.le (b := 0) rfl rfl (by have := degN_le (nb := nb) (u := j); omega) (by omega) (fun z => ?_) (fun z => ?_)
      · have ei : i = 0 := by omega
        subst ei
        refine mTo.N (T_countWalksDue hF (show j < 7 by omega) g2 g4 a3) (fun v _ hv => mTo.ix rfl (by omega) (by omega) (mTo.lt (mTo.lt ?_)))
        subst hv
        rw [nI_1]
        refine ih0 (j + 1) _ (by omega) (by omega) ⟨a1, by rw [en]; exact a2, fun u hu => ?_, fun u hu => ?_, fun u hu => ?_, fun p hp => ?_, fun u hu => ?_⟩
        · rw [mI_no (by decide)]; exact a3 u hu
        · rw [mI_no (by decide)]; exact a4 u hu
        · rw [mI_no (by decide)]; exact a5 u hu
        · rw [mI_no (by decide)]
          exact a6 p (by omega)
        · rw [mI_at (nI_clamp (n := j) (by omega))]
          by_cases c : u = j
          · rw [if_pos c, c]
          · rw [if_neg c]
            exact a7 u (by omega)
      · refine mTo.le (a := 22) rfl a2 (by decide) (by omega) (fun y => by omega) (fun y => mTo.ix a2 (by omega) (by omega) (mTo.lt (mTo.lt (mTo.lt ?_))))
        obtain ⟨i', hi'⟩ : ∃ i', i = i' + 1 := ⟨i - 1, by omega⟩
        rw [hi', nI_m1, a2]
        have own : owN nb (sdN nb j + (degN nb j - i)) = j := ow_pl (by omega) ⟨by omega, by omega⟩
        refine ih1 j i' _ (by omega) h2 (by omega) ⟨?_, ?_, fun u hu => ?_, fun u hu => ?_, fun u hu => ?_, fun p hp => ?_, fun u hu => ?_⟩
        · rw [mF_no (Or.inr (by decide))]
          exact a1
        · rw [mF_at]
          show V.fI 3 9 + 1 = _
          rw [a2, nI_1, show sdN nb j + (degN nb j - i) + 1 = sdN nb j + (degN nb j - i') by omega]
        · show (mI V 30 _ _).rI 27 u = _
          rw [mI_no (by decide)]; exact a3 u hu
        · show (mI V 30 _ _).rI 28 u = _
          rw [mI_no (by decide)]; exact a4 u hu
        · show (mI V 30 _ _).rI 29 u = _
          rw [mI_no (by decide)]; exact a5 u hu
        · show (mI V 30 _ _).rI 30 p = _
          rw [mI_at (nI_clamp (n := sdN nb j + (degN nb j - i)) (by omega))]
          by_cases c : p = sdN nb j + (degN nb j - i)
          · rw [if_pos c, c, own]
          · rw [if_neg c]
            exact a6 p (by omega)
        · show (mI V 30 _ _).rI 33 u = _
          rw [mI_no (by decide)]; exact a7 u hu
theorem T_loadEdges {F e s m : Nat} {b set : Int32} {P : Nat → Bool} {d : Nat → Int32} {A B : Nat → Nat} {V : mV} (hF : 2 ^ 22 ≤ F) (he : 256 ≤ e) (hs : s ≤ 7) (hm : m ≤ 11) (hd : qP d s m A B) (hq : enQ V e s m b d) (hset : ∀ i, i < m → mX11_has F set (nI i) = some (if P i = true then 1 else 0)) : mTo (mX2_loadEdges F e set V) (fun r => edS r.2 (nearN P A B m) s ∧ (∀ u, u < 7 → r.2.rI 28 u = 0) ∧ mAv (wX2_loadEdges e) V r.2) := by
  have hg := near_gph (P := P) hs hm hd
  have main : mTo (mX2_loadEdges F e set V) (fun r => edS r.2 (nearN P A B m) s ∧ ∀ u, u < 7 → r.2.rI 28 u = 0) := by
    unfold mX2_loadEdges mX2_loadEdges_s
    refine mTo.W (T_fillNear (P := P) (A := A) (B := B) (N := 7) hF (by omega) rfl (by omega) (by omega) hq.2.1 (fun i h => ?_) (fun i h => ?_) hset (by omega)) (fun v1 V1 _ qq => ?_)
    · rw [hq.2.2.2 _ (by omega), hq.2.2.2 _ (by omega)]
      exact ⟨(hd.1 i h).1, (hd.1 i h).2.1⟩
    · have := hd.1 i h
      omega
    · obtain ⟨q1, q2⟩ := qq
      have q1 : ∀ v, v < 7 → V1.rI 27 v = nI (nearN P A B m v) := q1
      have hq1 := hq.mv q2 (show ¬ e = 27 by omega) (show ¬ e + 1 = 27 by omega)
      refine mTo.W (T_fill (F := F) (a := 28) (N := 7) (by omega) rfl (by omega)) (fun v2 V2 _ q => ?_)
      obtain ⟨q3, q4⟩ := q
      have q3 : ∀ i, i < 7 → V2.rI 28 i = 0 := q3
      have q4 : mAv (wJ7_fill_53178 28) V1 V2 := q4
      have r27 : V2.rI 27 = V1.rI 27 := (q4.1 27 (by unfold wJ7_fill_53178; decide)).2.2.1
      have f1 : V2.fI e = V1.fI e := (q4.1 e (by unfold wJ7_fill_53178; omega)).1
      refine mTo.lt (mTo.lt ?_)
      have := (T_lE_go (F := F) (by omega) hg F).1 0 (mF (mF V2 3 8 (V2.fI e 1)) 3 9 0) (by omega) (Nat.zero_le _) ⟨?_, ?_, fun u hu => ?_, fun u hu => ?_, fun u hu => absurd hu (Nat.not_lt_zero _), fun u hu => absurd hu (Nat.not_lt_zero _), fun u hu => absurd hu (Nat.not_lt_zero _)⟩
      · exact this
      · rw [mF_no (Or.inr (by decide)), mF_at, f1, hq1.1]
      · exact mF_at
      · show V2.rI 27 u = _
        rw [r27]; exact q1 u hu
      · show V2.rI 28 u = _
        exact q3 u hu
  obtain ⟨r, r1, r2⟩ := main
  exact ⟨r, r1, r2.1, r2.2, NX2_loadEdges r1⟩
theorem prV_0 {V : mV} {nb t : Nat → Nat} (h : ∀ u, u < 7 → V.rI 28 u = 0) : prV V nb t 0 := ⟨fun q hq => absurd hq (Nat.not_lt_zero _), fun u q _ hq => absurd hq (Nat.not_lt_zero _), fun u hu => ⟨0, h u hu, by decide, fun v => by
  rw [Nat.zero_testBit]
  exact ⟨fun c => absurd c (by decide), fun ⟨q, c, _⟩ => absurd c (Nat.not_lt_zero q)⟩⟩⟩
theorem prS_0 {nb t s : Nat → Nat} : prS nb t s 0 := ⟨fun u q _ hq => absurd hq (Nat.not_lt_zero _), fun u _ _ hq => absurd hq (Nat.not_lt_zero _)⟩
end
