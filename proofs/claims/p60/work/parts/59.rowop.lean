/-! THE PURE PART: what a row is behind 'add' and 'set'; pairings: the numbers of pairs within each set. -/
section
theorem getD_snoc (xs : List Int32) (v : Int32) (i : Nat) : (xs ++ [v]).getD i 0 = if i < xs.length then xs.getD i 0 else if i = xs.length then v else 0 := by
  rw [List.getD_eq_getElem?_getD, List.getD_eq_getElem?_getD, List.getElem?_append]
  by_cases h : i < xs.length
  · rw [if_pos h, if_pos h]
  · rw [if_neg h, if_neg h]
    by_cases e : i = xs.length
    · subst e
      rw [if_pos rfl, Nat.sub_self]
      rfl
    · rw [if_neg e]
      obtain ⟨k, hk⟩ : ∃ k, i - xs.length = k + 1 := ⟨i - xs.length - 1, by omega⟩
      rw [hk]
      rfl
theorem getD_set {xs : List Int32} {j : Nat} (v : Int32) (i : Nat) (hj : j < xs.length) : (xs.set j v).getD i 0 = if i = j then v else xs.getD i 0 := by
  rw [List.getD_eq_getElem?_getD, List.getD_eq_getElem?_getD, List.getElem?_set]
  by_cases e : i = j
  · subst e
    rw [if_pos rfl, if_pos rfl, if_pos hj]
    rfl
  · rw [if_neg e, if_neg (fun z => e z.symm)]
theorem cpy_at {α : Type} {f g : Nat → α} {n i : Nat} (h : i < n) : va_cpy f g 0 0 n i = f i := by
  rw [pk_cpy_in (Nat.zero_le _) (by omega)]
  congr 1
  omega
theorem T_radd {F r : Nat} {Ln : Nat → Nat} {V : mV} {xs : List Int32} {v : Int32} (hk : mK r = 9) (h : rowIs Ln V r xs) (hc : xs.length < 1024) : mTo (mX9_add F Ln r v V) (fun p => rowIs p.2.1 p.2.2 r (xs ++ [v]) ∧ mAv (wX9_add r) V p.2.2 ∧ mAl (wX9_add r) Ln p.2.1) := by
  have hL := h.L
  obtain ⟨h1, h2, ⟨k, k1, k2⟩, h4⟩ := h
  have main : mTo (mX9_add F Ln r v V) (fun p => rowIs p.2.1 p.2.2 r (xs ++ [v])) := by
    unfold mX9_add
    rw [if_neg (fun z => z hk), h1]
    refine mTo.ltI (b := 1024) rfl rfl (by omega) (by omega) (fun _ => mTo.ltI rfl rfl (by omega) (by omega) (fun hl => mTo.ix rfl hl (by omega) (mTo.ret ?_)) (fun hl => ?_)) (fun z => by omega)
    · refine ⟨?_, ?_, ⟨k, k1, k2⟩, fun i hi => ?_⟩
      · rw [mF_at, List.length_append]
        exact nI_1 _
      · rw [List.length_append]
        exact hl
      · rw [getD_snoc]
        show (mI V (r + 1) (nI xs.length) v).rI (r + 1) i = _
        rw [mI_at (nI_clamp (by omega))]
        rw [List.length_append] at hi
        have hi : i < xs.length + 1 := hi
        by_cases e : i = xs.length
        · rw [if_pos e, if_neg (by omega), if_pos e]
        · rw [if_neg e, if_pos (by omega), h4 i (by omega)]
    · have c : Ln (r + 1) = xs.length := by omega
      have k5 : k < 6 := by
        rcases Nat.lt_or_ge k 6 with z | z
        · exact z
        · have : k = 6 := by omega
          subst this
          omega
      have p5 : 2 ^ k ≤ 2 ^ 5 := Nat.pow_le_pow_right (by decide) (by omega)
      have p0 := Nat.two_pow_pos k
      rw [if_neg (fun z => z ⟨by omega, by omega, nI_pos (by omega), by rw [nI_clamp (by omega)]; omega⟩)]
      refine mTo.ret ⟨?_, ?_, ⟨k + 1, by omega, ?_⟩, fun i hi => ?_⟩
      · rw [mF_at, List.length_append]
        exact nI_1 _
      · show _ ≤ va_up Ln (r + 1) (2 * Ln (r + 1)) (r + 1)
        rw [mUp_eq, List.length_append]
        show xs.length + 1 ≤ _
        omega
      · show va_up Ln (r + 1) (2 * Ln (r + 1)) (r + 1) = _
        rw [mUp_eq, k2, Nat.pow_succ]
        omega
      · rw [getD_snoc]
        show (mI (mRI V (r + 1) (va_cpy (V.rI (r + 1)) (fun _ => 0) 0 0 (Ln (r + 1)))) (r + 1) (nI xs.length) v).rI (r + 1) i = _
        rw [mI_at (nI_clamp (by omega))]
        rw [List.length_append] at hi
        have hi : i < xs.length + 1 := hi
        by_cases e : i = xs.length
        · rw [if_pos e, if_neg (by omega), if_pos e]
        · rw [if_neg e, if_pos (by omega)]
          show va_up V.rI (r + 1) (va_cpy (V.rI (r + 1)) (fun _ => 0) 0 0 (Ln (r + 1))) (r + 1) i = _
          rw [mUp_eq, cpy_at (by omega), h4 i (by omega)]
  obtain ⟨p, e, q⟩ := main
  exact ⟨p, e, q, NX9_add (v := p.1) e⟩
theorem T_rset {F r j : Nat} {Ln : Nat → Nat} {V : mV} {xs : List Int32} {v : Int32} (h : rowIs Ln V r xs) (hj : j < xs.length) : mTo (mX9_set F Ln r (nI j) v V) (fun p => rowIs Ln p.2 r (xs.set j v) ∧ mAv (wX9_set r) V p.2) := by
  have hL := h.L
  obtain ⟨h1, h2, h3, h4⟩ := h
  have main : mTo (mX9_set F Ln r (nI j) v V) (fun p => rowIs Ln p.2 r (xs.set j v)) := by
    unfold mX9_set
    rw [if_neg (nI_pos (by omega)), h1]
    refine mTo.le rfl rfl (by omega) (by omega) (fun z => by omega) (fun _ => mTo.ix rfl (by omega) (by omega) (mTo.lt (mTo.ret ⟨?_, ?_, h3, fun i hi => ?_⟩)))
    · rw [List.length_set]
      exact h1
    · rw [List.length_set]
      exact h2
    · rw [getD_set v i hj]
      show (mI V (r + 1) (nI j) v).rI (r + 1) i = _
      rw [mI_at (nI_clamp (by omega))]
      rw [List.length_set] at hi
      by_cases e : i = j
      · rw [if_pos e, if_pos e]
      · rw [if_neg e, if_neg e, h4 i hi]
  obtain ⟨p, e, q⟩ := main
  exact ⟨p, e, q, NX9_set (v := p.1) e⟩
theorem rowIs.ln {Ln Ln1 : Nat → Nat} {V : mV} {r : Nat} {xs : List Int32} (h : rowIs Ln V r xs) (e : Ln1 (r + 1) = Ln (r + 1)) : rowIs Ln1 V r xs := by
  obtain ⟨h1, h2, h3, h4⟩ := h
  exact ⟨h1, by rw [e]; exact h2, by rw [e]; exact h3, h4⟩
theorem nb_2s {s : Nat} (hs : s ≤ 9) : (2 : Nat) ^ s ≤ 512 := Nat.pow_le_pow_right (n := 2) (by decide) hs
theorem T_countPairs_go {F e s : Nat} {nr : Nat → Nat} (hF : 64 ≤ F) (he : 256 ≤ e) (hs : s ≤ 9) (hnb : ∀ i, nr i < 2 ^ s) : ∀ k', (∀ S (V : mV), (2 ^ s - S) * 20 + 1 ≤ k' → 0 < S → S ≤ 2 ^ s → V.fI e 1 = nI s → (∀ i, i < 9 → V.rI 19 i = nI (nr i)) → (∀ x, x < S → V.rI 20 x = nI (nu nr s x)) → mTo (mX7_countPairs_go F k' 0 e (nI S) 0 0 0 0 V) (fun p => ∀ x, x < 2 ^ s → p.2.rI 20 x = nI (nu nr s x))) ∧ (∀ S j (V : mV), (2 ^ s - S - 1) * 20 + (s - j) + 3 ≤ k' → 0 < S → S < 2 ^ s → j ≤ s → V.fI e 1 = nI s → (∀ i, i < 9 → V.rI 19 i = nI (nr i)) → (∀ x, x < S → V.rI 20 x = nI (nu nr s x)) → low S < j → mTo (mX7_countPairs_go F k' 1 e (nI S) (nI (low S)) (nI (nsd S (2 ^ low S))) (nI (mxo nr (nu nr s) (nsd S (2 ^ low S)) (low S) j)) (nI j) V) (fun p => ∀ x, x < 2 ^ s → p.2.rI 20 x = nI (nu nr s x))) := by
  have s9 := nb_2s hs
  intro k'
  induction k' with
  | zero => exact ⟨fun S V h => by omega, fun S j V h => by omega⟩
  | succ k ih =>
    obtain ⟨ih0, ih1⟩ := ih
    refine ⟨fun S V h1 h0 h2 hz hn hv => ?_, fun S j V h1 h0 h2 h3 hz hn hv hlj => ?_⟩
    · rw [mX7_countPairs_go, if_pos rfl]
      unfold mX7_countPairs_b0
      rw [hz, nb_one (by omega)]
      refine mTo.le rfl rfl (by omega) (by omega) (fun h => mTo.ret (fun x hx => hv x (by omega))) (fun h => mTo.le rfl rfl (by omega) (by omega) (fun z => by omega) (fun _ => ?_))
      have hS0 : S ≠ 0 := by omega
      refine mTo.N (T_lowest (by omega) (by omega)) (fun v _ q => ?_)
      rcases q with ⟨z, _⟩ | ⟨i, i1, i2, i3, i4⟩
      · exact absurd z hS0
      · have el := low_un (S := S) (by omega) i3 i4
        rw [← el] at i1 i2 i3 i4
        subst i2
        have his : low S < s := by
          rcases Nat.lt_or_ge (low S) s with y | y
          · exact y
          · rw [nb_big h y] at i3
            exact absurd i3 (by decide)
        have lt := nsd_ltS i3
        refine mTo.lt ?_
        rw [nb_one (by omega), nb_not (by omega)]
        refine mTo.ix rfl (by omega) (by omega) (mTo.lt (mTo.lt ?_))
        rw [nI_1, nI_clamp (by omega), hv _ lt]
        have g := ih1 S (low S + 1) V (by omega) h0 h (by omega) hz hn hv (by omega)
        rw [mxo_lo _ (Nat.le_refl _)] at g
        exact g
    · rw [mX7_countPairs_go, if_neg (by decide), if_pos rfl]
      unfold mX7_countPairs_b1
      have hS0 : S ≠ 0 := by omega
      obtain ⟨l1, l2, l3⟩ := low_spec (S := S) (by omega) hS0
      have lt := nsd_ltS l2
      have his : low S < s := by
        rcases Nat.lt_or_ge (low S) s with y | y
        · exact y
        · rw [nb_big h2 y] at l2
          exact absurd l2 (by decide)
      refine mTo.le hz rfl (by omega) (by omega) (fun h => mTo.ix rfl (by omega) (by omega) (mTo.lt (mTo.lt ?_))) (fun h => mTo.ix rfl (by omega) (by omega) ?_)
      · have : j = s := by omega
        subst this
        rw [nI_1]
        refine ih0 (S + 1) _ (by omega) (by omega) (by omega) hz (fun i hi => by rw [mI_no (by decide)]; exact hn i hi) (fun x hx => ?_)
        rw [mI_at (nI_clamp (by omega))]
        by_cases e : x = S
        · subst e
          rw [if_pos rfl, nu_eq (by omega) hS0]
        · rw [if_neg e]
          exact hv x (by omega)
      · have hnl := hnb (low S)
        have b1 : nsd S (2 ^ low S) &&& nr (low S) < 2 ^ 9 := nb_and_lt (by omega)
        have g := ih1 S (j + 1) V (by omega) h0 h2 (by omega) hz hn hv (by omega)
        rw [mxo] at g
        refine mTo.hs (by rw [nI_clamp (by omega), hn _ (by omega), nb_and]) rfl (by omega) (by omega) (fun hb => mTo.lt ?_) (fun hb => ?_)
        · rw [if_neg (fun z => by rw [hb] at z; exact absurd z.2 (by decide))] at g
          rw [nI_1]
          exact g
        · rw [if_pos ⟨hlj, hb⟩] at g
          have lt2 := nsd_le (nsd S (2 ^ low S)) (2 ^ j)
          have c1 := nu_bd (nr := nr) (s := s) (2 ^ 20) (nsd (nsd S (2 ^ low S)) (2 ^ j)) (by omega) (by omega)
          have c2 : mxo nr (nu nr s) (nsd S (2 ^ low S)) (low S) j < 2 ^ 20 := by
            rcases mxo_ex (nr := nr) (g := nu nr s) (R := nsd S (2 ^ low S)) (v := low S) j with e | ⟨i, _, _, _, e⟩
            · rw [e]
              have := nu_bd (nr := nr) (s := s) (2 ^ 20) (nsd S (2 ^ low S)) (by omega) (by omega)
              omega
            · rw [e]
              have := nsd_le (nsd S (2 ^ low S)) (2 ^ i)
              have := nu_bd (nr := nr) (s := s) (2 ^ 20) (nsd (nsd S (2 ^ low S)) (2 ^ i)) (by omega) (by omega)
              omega
          rw [nb_one (by omega), nb_not (by omega)]
          refine mTo.ix rfl (by omega) (by omega) (mTo.lt (mTo.lt ?_))
          rw [nI_clamp (by omega), hv _ (by omega), nI_1, show (1 : Int32) = nI 1 from rfl, nI_add]
          rcases Nat.lt_or_ge (mxo nr (nu nr s) (nsd S (2 ^ low S)) (low S) j) (1 + nu nr s (nsd (nsd S (2 ^ low S)) (2 ^ j))) with y | y
          · rw [if_pos ((nI_ltI (by omega) (by omega)).mpr y)]
            rw [Nat.max_eq_right (by omega)] at g
            exact g
          · rw [if_neg (fun z => by have := (nI_ltI (by omega) (by omega)).mp z; omega)]
            rw [Nat.max_eq_left (by omega)] at g
            exact g
theorem T_countPairs {F e s m : Nat} {b : Int32} {A B : Nat → Nat} {d : Nat → Int32} {V : mV} (hF : 2 ^ 22 ≤ F) (he : 256 ≤ e) (hs : s ≤ 9) (h0 : 0 < s) (h16 : m ≤ 16) (hq : enQ V e s m b d) (hd : ∀ i, i < m → d (5 * i) = nI (A i) ∧ d (5 * i + 1) = nI (B i) ∧ A i < s ∧ B i < s) : mTo (mX7_countPairs F e V) (fun p => (∀ i, i < 9 → p.2.rI 19 i = nI (nrA m A B i)) ∧ (∀ x, x < 2 ^ s → p.2.rI 20 x = nI (nu (nrA m A B) s x)) ∧ mAv (wX7_countPairs e) V p.2) := by
  have s9 := nb_2s hs
  have main : mTo (mX7_countPairs F e V) (fun p => (∀ i, i < 9 → p.2.rI 19 i = nI (nrA m A B i)) ∧ (∀ x, x < 2 ^ s → p.2.rI 20 x = nI (nu (nrA m A B) s x))) := by
    unfold mX7_countPairs mX7_countPairs_s
    refine mTo.W (T_fillNear (P := fun _ => true) (A := A) (B := B) hF (by omega) (N := 9) rfl (by omega) h16 hq.2.1 (fun i h => ?_) (fun i h => ?_) (fun i h => ?_) (by omega)) (fun v1 V1 _ qq => ?_)
    · rw [hq.2.2.2 _ (by omega), hq.2.2.2 _ (by omega)]
      exact ⟨(hd i h).1, (hd i h).2.1⟩
    · have := hd i h
      omega
    · rw [if_pos rfl]
      exact nb_hasM (by omega)
    · obtain ⟨q1, q2⟩ := qq
      have q1 : ∀ v, v < 9 → V1.rI 19 v = nI (nrA m A B v) := q1
      have hq1 := hq.mv q2 (show ¬ e = 19 by omega) (show ¬ e + 1 = 19 by omega)
      refine mTo.ix (c := 0) rfl (by omega) (by omega) (mTo.lt ?_)
      have p2 := Nat.two_pow_pos s
      obtain ⟨p, e1, r1⟩ := (T_countPairs_go (F := F) (e := e) (nr := nrA m A B) (by omega) he hs (fun i => nearN_lt (fun j hj => by have := hd j hj; omega)) F).1 1 (mI V1 20 0 0) (by omega) (by omega) (by omega) hq1.1 (fun i hi => by rw [mI_no (by decide)]; exact q1 i hi) (fun x hx => by
        have : x = 0 := by omega
        subst this
        rw [mI_at (j := 0) (by decide), if_pos rfl]
        rfl)
      refine ⟨p, e1, fun i hi => ?_, r1⟩
      have := ((NX7_countPairs_go (v := p.1) (V1 := p.2) F).1 _ _ _ e1).1 19 (by unfold wX7_countPairs_0; omega)
      rw [this.2.2.1, mI_no (by decide)]
      exact q1 i hi
  obtain ⟨p, e1, q1, q2⟩ := main
  exact ⟨p, e1, q1, q2, NX7_countPairs (v := p.1) e1⟩
end
