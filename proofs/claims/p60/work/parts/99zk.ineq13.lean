/-! THE PURE PART, inequalities: the machine keeps columns out, exchanges. -/
section
theorem nb_bit {K l : Nat} (hK : K < 2 ^ 31) (hl : l < 32) : ((nI K >>> (nI l &&& 31)) &&& (1 : Int32)) = 0 ↔ K.testBit l = false := by
  rw [nb_shr hK hl, nb_and1, Nat.testBit_eq_decide_div_mod_eq]
  have : K / 2 ^ l % 2 = 0 ∨ K / 2 ^ l % 2 = 1 := by omega
  rcases this with h | h <;> rw [h] <;> decide
theorem lkN_lt {C : Nat} {S : lpS} {row : Nat} (hK : sK S < 2 ^ 30) (hc : ∀ c, c < C → sC S c < 30) : ∀ n, n ≤ C → lkN S row n < 2 ^ 30
  | 0, _ => hK
  | n + 1, h => by
    have ih := lkN_lt hK hc (row := row) n (by omega)
    rw [lkN]
    split
    · exact nb_or_lt ih (nb_p2 (hc n (by omega)))
    · exact ih
theorem lpM_K {V : mV} {R C K : Nat} {S : lpS} (h : lpM V R C S) : lpM (mF V 4 3 (nI K)) R C (sT S, sR S, sC S, K, sL S) := by
  obtain ⟨m1, m2, m3, m4, m5, m6, m7⟩ := h
  refine ⟨?_, ?_, m3, mF_at, m5, m6, m7⟩
  · rw [mF_no (Or.inr (by decide))]
    exact m1
  · rw [mF_no (Or.inr (by decide))]
    exact m2
theorem T_lockRising {F R C row : Nat} {S : lpS} {V : mV} (hF : 64 ≤ F) (hM : lpM V R C S) (hB : lpB R C S) (hr : row ≤ R) : mTo (mX5_lockRising F (nI row) V) (fun p => lpM p.2 R C (lkS S C row)) := by
  obtain ⟨b1, b2, b3, _, _, b6, b7, b8⟩ := hB
  have go : ∀ k' c (V1 : mV), C - c + 1 ≤ k' → c ≤ C → lpM V1 R C (sT S, sR S, sC S, lkN S row c, sL S) → mTo (mX5_lockRising_go F k' 0 (nI row) (nI c) V1) (fun p => lpM p.2 R C (lkS S C row)) := by
    intro k'
    induction k' with
    | zero => exact fun c V1 h => by omega
    | succ k ih =>
      intro c V1 h1 h2 hM1
      obtain ⟨m1, m2, m3, m4, m5, m6, m7⟩ := id hM1
      rw [mX5_lockRising_go, if_pos rfl]
      unfold mX5_lockRising_b0
      refine mTo.le m2 rfl (by omega) (by omega) (fun z => mTo.ret (by rw [show c = C by omega] at hM1; exact hM1)) (fun z => mTo.ix rfl (by omega) (by omega) (mTo.ix rfl (by omega) (by omega) ?_))
      have t1 := b3 row c hr (by omega)
      have ih := fun V2 => ih (c + 1) V2 (by omega) (by omega)
      rw [lkN] at ih
      rw [nI_clamp (n := row) (by omega), nI_clamp (n := c) (by omega), m5 row c hr (by omega)]
      refine mTo.ite (fun y => mTo.lt ?_) (fun y => mTo.ic rfl (by omega) (by omega) (mTo.lt (mTo.lt ?_)))
      · have y := (lg_cmp_ge0 (by show (sT S row c).natAbs < 2 ^ 62; omega)).mp y
        have y : 0 ≤ sT S row c := y
        rw [if_neg (by omega)] at ih
        rw [nI_1]
        exact ih V1 hM1
      · have y : sT S row c < 0 := Int.not_le.mp fun w => y ((lg_cmp_ge0 (by show (sT S row c).natAbs < 2 ^ 62; omega)).mpr w)
        rw [if_pos y] at ih
        rw [nI_1, m4, m7 c z]
        have l1 := b8 c z
        show mTo (mX5_lockRising_go F k 0 (nI row) (nI (c + 1)) (mF V1 4 3 (nI (lkN S row c) ||| (1 : Int32) <<< (nI (sC S c) &&& 31)))) _
        rw [nb_one (by omega), nb_or]
        exact ih _ (lpM_K (S := (sT S, sR S, sC S, lkN S row c, sL S)) hM1)
  unfold mX5_lockRising mX5_lockRising_s
  exact go F 0 V (by omega) (Nat.zero_le _) hM
/-- in the midst of an exchange -/
def exM (V : mV) (R C row col : Nat) (S : lpS) (r c : Nat) : Prop := V.fI 4 4 = nI R ∧ V.fI 4 5 = nI C ∧ V.fJ 4 6 = jO (sL S) ∧ V.fI 4 3 = nI (sK S) ∧ (∀ r' c', r' ≤ R → c' ≤ C → V.rJ (36 + r') c' = jO (if r' < r ∧ r' ≠ row then exT (sT S) (sL S) row col r' c' else if r' = r ∧ c' < c then (sT S row col * sT S r' c' - sT S r' col * sT S row c').tdiv (sL S) else sT S r' c')) ∧ (∀ r, r < R → V.rI 50 r = nI (sR S r)) ∧ ∀ c, c < C → V.rI 51 c = nI (sC S c)
theorem mG_at {V : mV} {a j : Nat} {v : Int64} : (mG V a j v).fJ a j = v := by
  show va_up V.fJ a (va_up (V.fJ a) j v) a j = v
  rw [mUp_eq, mUp_eq]
theorem ex_fin {V1 : mV} {R C row col : Nat} {S : lpS} {v50 v51 : Int32} (hE : exM V1 R C row col S (R + 1) 0) (hr : row < R) (hc : col < C) (hR : R ≤ 13) (hC : C ≤ 17) (e50 : v50 = nI (sC S col)) (e51 : v51 = nI (sR S row)) : lpM (mI (mI (mG (mJ V1 (36 + row) (nI col) (jO (sL S))) 4 6 (jO (sT S row col))) 50 (nI row) v50) 51 (nI col) v51) R C (exT (sT S) (sL S) row col, exL (sR S) row (sC S col), exL (sC S) col (sR S row), sK S, sT S row col) := by
  obtain ⟨m1, m2, m3, m4, m5, m6, m7⟩ := hE
  refine ⟨m1, m2, (show (mG (mJ V1 (36 + row) (nI col) (jO (sL S))) 4 6 (jO (sT S row col))).fJ 4 6 = jO (sT S row col) from mG_at), m4, fun r' c' a1 a2 => ?_, fun r' a1 => ?_, fun c' a1 => ?_⟩
  · show (mJ V1 (36 + row) (nI col) (jO (sL S))).rJ (36 + r') c' = jO (exT (sT S) (sL S) row col r' c')
    by_cases e : r' = row
    · subst e
      rw [mJ_at (nI_clamp (n := col) (by omega))]
      unfold exT
      rw [if_pos (show r' = r' from rfl)]
      by_cases f : c' = col
      · rw [if_pos f, if_pos f]
      · rw [if_neg f, if_neg f, m5 r' c' a1 a2, if_neg (by omega), if_neg (by omega)]
    · rw [mJ_no (by omega), m5 r' c' a1 a2, if_pos ⟨by omega, e⟩]
  · rw [mI_no (by decide), mI_at (nI_clamp (n := row) (by omega))]
    show _ = nI (exL (sR S) row (sC S col) r')
    unfold exL
    by_cases e : r' = row
    · rw [if_pos e, if_pos e, e50]
    · rw [if_neg e, if_neg e]
      exact m6 r' a1
  · rw [mI_at (nI_clamp (n := col) (by omega))]
    show _ = nI (exL (sC S) col (sR S row) c')
    unfold exL
    by_cases e : c' = col
    · rw [if_pos e, if_pos e, e51]
    · rw [if_neg e, if_neg e, mI_no (by decide)]
      exact m7 c' a1
theorem jO_dv {x y : Int} (hx : x.natAbs < 2 ^ 62) (hy : y.natAbs < 2 ^ 62) : jO x / jO y = jO (x.tdiv y) := jO_div hx hy
theorem T_exchange {F R C row col : Nat} {S : lpS} {V : mV} (hF : 2 ^ 12 ≤ F) (hM : lpM V R C S) (hB : lpB R C S) (hr : row < R) (hc : col < C) (hp : 0 < sT S row col) : mTo (mX5_exchange F (nI row) (nI col) V) (fun p => lpM p.2 R C (exS S C row col)) := by
  obtain ⟨b1, b2, b3, b4, b5, b6, b7, b8⟩ := hB
  have go : ∀ k', (∀ r (V1 : mV), (R + 1 - r) * 20 + 1 ≤ k' → r ≤ R + 1 → exM V1 R C row col S r 0 → mTo (mX5_exchange_go F k' 0 (nI row) (nI col) (jO (sT S row col)) (nI r) 0 0 V1) (fun p => lpM p.2 R C (exS S C row col))) ∧ (∀ r c (V1 : mV), (R - r) * 20 + 1 + (C + 1 - c) + 1 ≤ k' → r ≤ R → r ≠ row → c ≤ C + 1 → exM V1 R C row col S r c → mTo (mX5_exchange_go F k' 1 (nI row) (nI col) (jO (sT S row col)) (nI r) (jO (sT S r col)) (nI c) V1) (fun p => lpM p.2 R C (exS S C row col))) := by
    intro k'
    induction k' with
    | zero => exact ⟨fun r V1 h => by omega, fun r c V1 h => by omega⟩
    | succ k ih =>
      obtain ⟨ih0, ih1⟩ := ih
      refine ⟨fun r V1 h1 h2 hE => ?_, fun r c V1 h1 h2 h3 h4 hE => ?_⟩
      · obtain ⟨m1, m2, m3, m4, m5, m6, m7⟩ := id hE
        rw [mX5_exchange_go, if_pos rfl]
        unfold mX5_exchange_b0
        refine mTo.ltI m1 rfl (by omega) (by omega) (fun z => mTo.ix rfl (by omega) (by omega) (mTo.ix rfl (by omega) (by omega) (mTo.lt (mTo.lt (mTo.ix rfl (by omega) (by omega) (mTo.lt (mTo.ix rfl (by omega) (by omega) (mTo.ix rfl (by omega) (by omega) (mTo.lt (mTo.ix rfl (by omega) (by omega) (mTo.lt ?_))))))))))) (fun z => mTo.ix rfl (by omega) (by omega) (mTo.ix rfl (by omega) (by omega) (mTo.lt ?_)))
        · have er : r = R + 1 := by omega
          subst er
          have l1 := b7 row hr
          rw [nI_clamp (n := row) (by omega), nI_clamp (n := col) (by omega), m3]
          refine mTo.ltI (a := sR S row) (b := C) (m6 row hr) m2 (by omega) (by omega) (fun w => mTo.ret ?_) (fun w => mTo.lt (mTo.ret ?_))
          · have e : exS S C row col = (exT (sT S) (sL S) row col, exL (sR S) row (sC S col), exL (sC S) col (sR S row), sK S, sT S row col) := by
              unfold exS
              rw [if_neg (by omega)]
            rw [e]
            exact ex_fin hE hr hc b1 b2 (m7 col hc) (m6 row hr)
          · have e : exS S C row col = (exT (sT S) (sL S) row col, exL (sR S) row (sC S col), exL (sC S) col (sR S row), sK S ||| 2 ^ sR S row, sT S row col) := by
              unfold exS
              rw [if_pos (by omega)]
            rw [e]
            show lpM (mF _ 4 3 ((V1.fI 4 3) ||| ((1 : Int32) <<< ((V1.rI 50 row) &&& 31)))) R C _
            rw [m4, m6 row hr, nb_one (by omega), nb_or]
            exact lpM_K (S := (exT (sT S) (sL S) row col, exL (sR S) row (sC S col), exL (sC S) col (sR S row), sK S, sT S row col)) (ex_fin hE hr hc b1 b2 (m7 col hc) (m6 row hr))
        · rw [nI_clamp (n := r) (by omega), nI_clamp (n := col) (by omega)]
          refine mTo.eqI rfl rfl (by omega) (by omega) (fun y => mTo.lt ?_) (fun y => ?_)
          · subst y
            rw [nI_1]
            refine ih0 (r + 1) V1 (by omega) (by omega) ⟨m1, m2, m3, m4, fun r' c' a1 a2 => ?_, m6, m7⟩
            rw [m5 r' c' a1 a2]
            congr 1
            by_cases e : r' = r
            · rw [if_neg (by omega), if_neg (by omega), if_neg (by omega), if_neg (by omega)]
            · by_cases f : r' < r
              · rw [if_pos ⟨f, e⟩, if_pos ⟨by omega, e⟩]
              · rw [if_neg (by omega), if_neg (by omega), if_neg (by omega), if_neg (by omega)]
          · rw [m5 r col (by omega) (by omega), if_neg (by omega), if_neg (by omega)]
            exact ih1 r 0 V1 (by omega) (by omega) y (by omega) hE
      · obtain ⟨m1, m2, m3, m4, m5, m6, m7⟩ := id hE
        rw [mX5_exchange_go, if_neg (by decide), if_pos rfl]
        unfold mX5_exchange_b1
        refine mTo.ltI m2 rfl (by omega) (by omega) (fun z => mTo.ix rfl (by omega) (by omega) (mTo.ix rfl (by omega) (by omega) (mTo.lt (mTo.lt ?_)))) (fun z => mTo.ix rfl (by omega) (by omega) (mTo.ix rfl (by omega) (by omega) (mTo.ix rfl (by omega) (by omega) (mTo.ix rfl (by omega) (by omega) (mTo.ix rfl (by omega) (by omega) (mTo.ite (fun w => ?_) (fun _ => mTo.ix rfl (by omega) (by omega) (mTo.lt (mTo.lt ?_)))))))))
        · have ec : c = C + 1 := by omega
          subst ec
          rw [nI_clamp (n := r) (by omega), nI_1, jO_neg]
          refine ih0 (r + 1) _ (by omega) (by omega) ⟨m1, m2, m3, m4, fun r' c' a1 a2 => ?_, m6, m7⟩
          by_cases e : r' = r
          · subst e
            rw [mJ_at (nI_clamp (n := col) (by omega)), if_pos (show r' < r' + 1 ∧ r' ≠ row from ⟨by omega, h3⟩)]
            unfold exT
            rw [if_neg h3]
            by_cases f : c' = col
            · rw [if_pos f, if_pos f]
            · rw [if_neg f, if_neg f, m5 r' c' a1 a2, if_neg (by omega), if_pos ⟨rfl, by omega⟩]
          · rw [mJ_no (by omega), m5 r' c' a1 a2]
            congr 1
            by_cases f : r' < r ∧ r' ≠ row
            · rw [if_pos f, if_pos ⟨by omega, f.2⟩]
            · rw [if_neg f, if_neg (by omega), if_neg (by omega), if_neg (by omega)]
        · rw [m3] at w
          have := (jO_z (by omega)).mp w
          omega
        · rw [nI_clamp (n := r) (by omega), nI_clamp (n := c) (by omega), nI_clamp (n := row) (by omega), m5 r c (by omega) (by omega), if_neg (by omega), if_neg (by omega), m5 row c (by omega) (by omega), if_neg (by omega), if_neg (by omega), m3, jO_mul, jO_mul, jO_sub]
          have p1 := b60 (b3 row col (by omega) (by omega)) (b3 r c (by omega) (by omega))
          have p2 := b60 (b3 r col (by omega) (by omega)) (b3 row c (by omega) (by omega))
          rw [jO_dv (by omega) (by omega), nI_1]
          refine ih1 r (c + 1) _ (by omega) h2 h3 (by omega) ⟨m1, m2, m3, m4, fun r' c' a1 a2 => ?_, m6, m7⟩
          by_cases e : r' = r
          · subst e
            rw [mJ_at (nI_clamp (n := c) (by omega)), if_neg (show ¬ (r' < r' ∧ r' ≠ row) by omega)]
            by_cases f : c' = c
            · rw [if_pos f, if_pos ⟨rfl, by omega⟩, f]
            · rw [if_neg f, m5 r' c' a1 a2, if_neg (by omega)]
              by_cases g : c' < c
              · rw [if_pos ⟨rfl, g⟩, if_pos ⟨rfl, by omega⟩]
              · rw [if_neg (by omega), if_neg (by omega)]
          · rw [mJ_no (by omega), m5 r' c' a1 a2]
            congr 1
            by_cases f : r' < r ∧ r' ≠ row
            · rw [if_pos f, if_pos f]
            · rw [if_neg f, if_neg f, if_neg (by omega), if_neg (by omega)]
  obtain ⟨m1, m2, m3, m4, m5, m6, m7⟩ := id hM
  unfold mX5_exchange mX5_exchange_s
  refine mTo.ix rfl (by omega) (by omega) (mTo.ix rfl (by omega) (by omega) (mTo.lt ?_))
  rw [nI_clamp (n := row) (by omega), nI_clamp (n := col) (by omega), m5 row col (by omega) (by omega), m3]
  have t1 := b3 row col (by omega) (by omega)
  refine mTo.ite (fun w => ?_) (fun _ => mTo.ite (fun _ => ?_) (fun w => ?_))
  · have w := (cmplt (y := 1) (by omega) (by decide)).mp w
    omega
  · exact (go F).1 0 V (by omega) (Nat.zero_le _) ⟨m1, m2, m3, m4, fun r' c' a1 a2 => by rw [m5 r' c' a1 a2, if_neg (by omega), if_neg (by omega)], m6, m7⟩
  · exact absurd ((cmpge (y := 1) (by omega) (by decide)).mpr (by omega)) w
end
