/-! THE LAW: its labels joined. -/
section
abbrev R1 (p : Int32 × (Nat → Nat) × mV) : Prop := p.1 = 1
theorem T_b4go {G : wkG} {F N : Nat} (hL : G.1 9 ≤ 260) (hF : 2 ^ 34 ≤ F) (hN : N ≤ 12) : ∀ k' i n L V Q, N < i + k' → i ≤ N → N ≤ n → bST L V n Q → L 3000 + 2 * (N - i) + 200 < 5000 → L 3001 = 1 → mTo (mL_law_go G F k' 4 L (nI N) (nI i) 0 0 0 0 0 0 V) R1 := by
  intro k'
  induction k' with
  | zero => intro i n L V Q h1 h2; omega
  | succ k' ih =>
    intro i n L V Q h1 h2 hn hI hT h1'
    have n12 := hI.1.1.2.1
    rw [mL_law_go, if_neg (by decide), if_neg (by decide), if_neg (by decide), if_neg (by decide), if_pos rfl]
    unfold mL_law_b4
    refine mTo.le rfl rfl (by omega) (by omega) (fun _ => ?_) (fun lt => ?_)
    · refine mTo.A (T_areOne (a := 1100) hF hL (by decide) hI (by omega)) (fun v L1 V1 _ h => ?_)
      obtain ⟨g1, g2⟩ := h
      have g1 : v = 1 := g1
      have g2 : bAt L (11 * 12) n Q L1 V1 := g2
      rw [g1, if_neg (by decide)]
      refine mTo.A (T_isAnew hF g2.1 (by rw [g2.2.2, h1']; decide)) (fun v2 L2 V2 _ h => ?_)
      obtain ⟨g3, g4, _, _⟩ := h
      have g3 : v2 = 1 := g3
      have g4 : bST L2 V2 n Q := g4
      rw [g3, if_neg (by decide)]
      refine mTo.A (T_isSound hF g4) (fun v3 L3 V3 _ h => ?_)
      obtain ⟨g5, _⟩ := h
      have g5 : v3 = 1 := g5
      rw [g5, if_pos (by decide)]
      exact mTo.ret rfl
    · have iN : i < n := by omega
      refine mTo.A (T_kindOf (G := G) (F := F) (Ln := L) hI.1.1 iN) (fun v L1 V1 _ h => ?_)
      cases h
      have two : ∀ k, k < 12 → mTo (mBA (mL_isCarried G F L (nI i) (nI (ltK k)) V) fun v301 L302 V302 => (if v301 = 0 then some ((0 : Int32), L302, V302) else (mBA (mL_isCarried G F L302 (nI i) (nI (ltK 4)) V302) fun v307 L308 V308 => (if v307 = 0 then some ((0 : Int32), L308, V308) else (mLt (nI i + (1 : Int32)) fun x313 => (mL_law_go G F k' 4 L308 (nI N) (x313) 0 0 0 0 0 0 V308)))))) R1 := fun k hk => by
        refine mTo.A (T_isCarried hF hI iN hk (by omega)) (fun v L2 V2 _ h => ?_)
        obtain ⟨g1, n2, Q2, n3, g2, g3, g4, g5⟩ := h
        have g1 : v = 1 := g1
        have g2 : bST L2 V2 n2 Q2 := g2
        have g4 : L2 3000 ≤ L 3000 + 1 := g4
        have g5 : L2 3001 = L 3001 := g5
        rw [g1, if_neg (by decide)]
        refine mTo.A (T_isCarried (k := 4) hF g2 (by omega) (by decide) (by omega)) (fun v3 L3 V3 _ h => ?_)
        obtain ⟨g6, n4, Q4, n5, g7, _, g8, g9⟩ := h
        have g6 : v3 = 1 := g6
        have g7 : bST L3 V3 n4 Q4 := g7
        have g8 : L3 3000 ≤ L2 3000 + 1 := g8
        have g9 : L3 3001 = L2 3001 := g9
        rw [g6, if_neg (by decide), nI_1]
        exact mTo.lt (ih (i + 1) n4 L3 V3 Q4 (by omega) (by omega) (by omega) g7 (by omega) (by rw [g9, g5, h1']))
      exact mTo.ite (fun _ => two 3 (by decide)) (fun _ => two 1 (by decide))
theorem T_b2go {G : wkG} {F N : Nat} (hL : G.1 9 ≤ 260) (hF : 2 ^ 34 ≤ F) (h0 : 0 < N) (hN : N ≤ 12) : ∀ d k k' L V Q, d + k = 14 → 2 * d + N + 4 ≤ k' → bST L V N Q → Qs (Q 100) = 1 → L 3000 + 20 * d + 400 < 5000 → L 3001 = 0 → mTo (mL_law_go G F k' 2 L (nI N) (nI k) 0 0 0 0 0 0 V) R1 := by
  intro d
  induction d with
  | zero =>
    intro k k' L V Q hd hk hI hp hT h1
    obtain ⟨k', rfl⟩ : ∃ z, k' = z + 1 := ⟨k' - 1, by omega⟩
    rw [mL_law_go, if_neg (by decide), if_neg (by decide), if_pos rfl]
    unfold mL_law_b2
    refine mTo.le (a := 14) rfl rfl (by decide) (by omega) (fun _ => ?_) (fun z => by omega)
    refine mTo.A (T_isAnew hF hI (by rw [h1]; decide)) (fun v L1 V1 _ h => ?_)
    obtain ⟨g1, g2, g3, g4⟩ := h
    have g1 : v = 1 := g1
    have g2 : bST L1 V1 N Q := g2
    have g3 : L1 3000 = L 3000 := g3
    have g4 : L1 3001 = L 3001 + 1 := g4
    rw [g1, if_neg (by decide)]
    refine mTo.A (T_settle hF g2) (fun v2 L2 V2 _ h => ?_)
    obtain ⟨g5, g6, g7, _⟩ := h
    have g5 : ¬ lg_cmp v2 (0 : Int64) < 0 := g5
    have g6 : bAt L1 0 N Q L2 V2 := g6
    have g7 : allS L2 V2 Q N := g7
    rw [if_neg g5]
    refine mTo.A (T_settle hF g6.1) (fun v3 L3 V3 _ h => ?_)
    obtain ⟨_, g8, _, g9⟩ := h
    have g8 : bAt L2 0 N Q L3 V3 := g8
    have g9 : v3 = 0 := g9 g7
    rw [g9, if_pos (by decide)]
    refine mTo.A (T_isSound hF g8.1) (fun v4 L4 V4 _ h => ?_)
    obtain ⟨ga, gb⟩ := h
    have ga : v4 = 1 := ga
    have gb : bAt L3 0 N Q L4 V4 := gb
    rw [ga, if_pos (by decide)]
    have t6 := g6.2.1
    have t8 := g8.2.1
    have tb := gb.2.1
    refine T_b4go hL hF hN k' 0 N L4 V4 Q (by omega) (Nat.zero_le _) (Nat.le_refl _) gb.1 (by omega) ?_
    rw [gb.2.2, g8.2.2, g6.2.2, g4, h1]
  | succ d ih =>
    intro k k' L V Q hd hk hI hp hT h1
    obtain ⟨k', rfl⟩ : ∃ z, k' = z + 2 := ⟨k' - 2, by omega⟩
    rw [mL_law_go, if_neg (by decide), if_neg (by decide), if_pos rfl]
    refine T_b2m hL hF hI h0 hp (by omega) (by omega) (fun j v L0 V0 is L1 V1 hj hI0 h3 h4 hs => ?_)
    rw [mL_law_go, if_neg (by decide), if_neg (by decide), if_neg (by decide), if_pos rfl]
    refine T_b3 hL hF hI0 hj hp (by omega) (by omega) hs (fun L2 V2 Q2 hI2 hp2 h5 h6 => ?_)
    exact ih (k + 1) k' L2 V2 Q2 (by omega) (by omega) hI2 hp2 (by omega) (by rw [h6, h4, h1])
theorem T_b0go {G : wkG} {F N : Nat} (hL : G.1 9 ≤ 260) (hF : 2 ^ 34 ≤ F) (h0 : 0 < N) (hN : N < 12) : ∀ d i k' L V Q, d + i = N → 20 * d + 100 ≤ k' → bST L V i Q → Qs (Q 100) = 0 → L 3000 ≤ 28 * i → L 3001 = 0 → mTo (mL_law_go G F k' 0 L (nI N) (nI i) 0 0 0 0 0 0 V) R1 := by
  intro d
  induction d with
  | zero =>
    intro i k' L V Q hd hk hI hp hT h1
    have ei : i = N := by omega
    subst ei
    obtain ⟨k', rfl⟩ : ∃ z, k' = z + 1 := ⟨k' - 1, by omega⟩
    rw [mL_law_go, if_pos rfl]
    unfold mL_law_b0
    refine mTo.le rfl rfl (by omega) (by omega) (fun _ => ?_) (fun z => by omega)
    refine mTo.A (T_person hI hp) (fun v L1 V1 _ h => ?_)
    obtain ⟨g1, g2, g3⟩ := h
    have g1 : v = 0 := g1
    have g2 : bST L1 V1 i (va_up Q 100 (newQ 0 1 0)) := g2
    have g3 : L1 = L := g3
    rw [g1, if_pos (by decide)]
    refine mTo.A (T_areOne (a := 700) hF hL (by decide) g2 (by rw [g3]; omega)) (fun v2 L2 V2 _ h => ?_)
    obtain ⟨g4, g5⟩ := h
    have g4 : v2 = 1 := g4
    have g5 : bAt L1 (11 * 12) i (va_up Q 100 (newQ 0 1 0)) L2 V2 := g5
    rw [g4, if_neg (by decide)]
    refine mTo.A (T_settle hF g5.1) (fun v3 L3 V3 _ h => ?_)
    obtain ⟨_, g6, _, _⟩ := h
    have g6 : bAt L2 0 i (va_up Q 100 (newQ 0 1 0)) L3 V3 := g6
    have t5 := g5.2.1
    have t6 := g6.2.1
    rw [g3] at t5
    refine T_b2go hL hF h0 (by omega) 14 0 k' L3 V3 _ rfl (by omega) g6.1 (by rw [mUp_eq]; rfl) (by omega) ?_
    rw [g6.2.2, g5.2.2, g3, h1]
  | succ d ih =>
    intro i k' L V Q hd hk hI hp hT h1
    obtain ⟨k', rfl⟩ : ∃ z, k' = z + 1 := ⟨k' - 1, by omega⟩
    rw [mL_law_go, if_pos rfl]
    refine T_b0 hL hF hI (by omega) hN hp (by omega) (fun L2 V2 Q2 m hm hI2 hp2 hq2 h3 h4 => ?_)
    refine T_b1go (X := 20 * d + 100) hL hF (by omega) hm (28 * (i + 1)) 0 (by omega) (fun L3 V3 Q3 hI3 hp3 h5 h6 f hf => ih (i + 1) f L3 V3 Q3 (by omega) hf hI3 hp3 h5 h6) k' 0 L2 V2 Q2 (by omega) (Nat.zero_le _) (by omega) hI2 hp2 (by omega) (by omega) (by rw [h4, h1])
theorem law_is {G : wkG} (hL : G.1 9 ≤ 260) : ∃ F : Nat, mL_law G F = some 1 := by
  obtain ⟨F, hF⟩ : ∃ F : Nat, 2 ^ 34 ≤ F := ⟨2 ^ 34, Nat.le_refl _⟩
  refine ⟨F, ?_⟩
  have main : mTo (mL_law G F) (fun v => v = 1) := by
    unfold mL_law
    rw [if_neg (fun c => c (by omega))]
    refine mTo.N (T_drawn hL (by decide) (by decide)) (fun v _ h => mTo.lt ?_)
    obtain ⟨x, ex, x4⟩ := dr_nat (N := 4) h.1 h.2 (by decide)
    rw [ex, show (2 : Int32) = nI 2 from rfl, nI_add]
    obtain ⟨p, e, q⟩ := T_b0go (N := 2 + x) hL hF (by omega) (by omega) (2 + x) 0 F (va_up mLn0 3001 0) mV0 (fun _ => newQ 0 0 0) (by omega) (by omega) (st_new (fun d hd => mUp_ne _ _ hd) rfl) rfl (by
      rw [mUp_ne _ _ (show (3000 : Nat) ≠ 3001 by decide)]
      exact Nat.zero_le _) (mUp_eq _ _ _)
    have e : mL_law_go G F F 0 (va_up mLn0 3001 0) (nI (2 + x)) 0 0 0 0 0 0 0 mV0 = some p := e
    rw [e]
    exact ⟨_, rfl, q⟩
  obtain ⟨v, e, q⟩ := main
  rw [e, q]
end
