/-! THE PURE PART, inequalities: the machine's first tables. -/
section
theorem T_clearTable {F : Nat} {V : mV} (hF : 2 ^ 21 ≤ F) : mTo (mX5_clearTable F V) (fun p => ∀ r c, r < 14 → c < 18 → p.2.rJ (36 + r) c = 0) := by
  have go : ∀ k' t (V1 : mV), 14 < t + k' → t ≤ 14 → (∀ r c, r < t → c < 18 → V1.rJ (36 + r) c = 0) → mTo (mX5_clearTable_go F k' 0 (nI t) V1) (fun p => ∀ r c, r < 14 → c < 18 → p.2.rJ (36 + r) c = 0) := by
    intro k'
    induction k' with
    | zero => exact fun t V1 h => by omega
    | succ k ih =>
      intro t V1 h1 h2 h3
      rw [mX5_clearTable_go, if_pos rfl]
      unfold mX5_clearTable_b0
      refine mTo.le (a := 14) rfl rfl (by omega) (by omega) (fun z => mTo.ret (fun r c hr hc => h3 r c (by omega) hc)) (fun z => mTo.ix rfl (by omega) (by omega) ?_)
      rw [nI_clamp (n := t) (by omega)]
      have ml : mLen (36 + t) = 18 := by
        have all : ∀ t, t < 14 → mLen (36 + t) = 18 := by decide
        exact all t z
      obtain ⟨p, e1, q⟩ := T_fillJ (F := F) (a := 36 + t) (x := 0) (V := V1) hF ml (by omega)
      have fr := NJ7_fill_d0a16 (v := p.1) (V1 := p.2) e1
      refine mTo.W (Q := fun r => r = p) ⟨p, e1, rfl⟩ (fun v V2 _ r => mTo.lt ?_)
      have eV : V2 = p.2 := congrArg Prod.snd r
      rw [eV, nI_1]
      refine ih (t + 1) _ (by omega) (by omega) (fun r c hr hc => ?_)
      by_cases w : r = t
      · rw [w, q c, if_pos hc]
      · have nw : ¬ wJ7_fill_d0a16 (36 + t) (36 + r) := fun y => by
          have y : 36 + r = 36 + t := y
          omega
        rw [(fr.1 _ nw).2.2.2]
        exact h3 r c (by omega) hc
  unfold mX5_clearTable mX5_clearTable_s
  exact go F 0 V (by omega) (Nat.zero_le _) (fun r c h => absurd h (Nat.not_lt_zero _))
/-- what stands before the sum is made -/
def rawM (V : mV) (a : Nat → Nat → Int) (R C : Nat) : Prop := V.fI 4 4 = nI R ∧ V.fI 4 5 = nI C ∧ (∀ r c, r < R → c ≤ C → V.rJ (36 + r) c = jO (a (if c = C then C + R else c) r)) ∧ ∀ c, c ≤ C → V.rJ (36 + R) c = 0
def bgM (V : mV) (a : Nat → Nat → Int) (R C r c : Nat) : Prop := V.fI 4 4 = nI R ∧ V.fI 4 5 = nI C ∧ V.fJ 4 6 = 1 ∧ V.fI 4 3 = 0 ∧ (∀ r c, r < R → c ≤ C → V.rJ (36 + r) c = jO (a (if c = C then C + R else c) r)) ∧ (∀ c', c' ≤ C → V.rJ (36 + R) c' = jO (dsz (if c' < c then r + 1 else r) (fun i => a (if c' = C then C + R else c') i))) ∧ ∀ c, c < C → V.rI 51 c = nI c
theorem T_begin {a : Nat → Nat → Int} {F R C : Nat} {V : mV} (hF : 2 ^ 12 ≤ F) (hR : R ≤ 13) (hC : C ≤ 17) (hM : rawM V a R C) : mTo (mX5_begin F V) (fun p => lpM p.2 R C (stS a R C)) := by
  have go : ∀ k', (∀ r (V1 : mV), (R - r) * 20 + 1 ≤ k' → r ≤ R → bgM V1 a R C r 0 → (∀ r', r' < r → V1.rI 50 r' = nI (C + r')) → mTo (mX5_begin_go F k' 1 (nI r) 0 V1) (fun p => lpM p.2 R C (stS a R C))) ∧ (∀ r c (V1 : mV), (R - r - 1) * 20 + 1 + (C + 1 - c) + 1 ≤ k' → r < R → c ≤ C + 1 → bgM V1 a R C r c → (∀ r', r' < r + 1 → V1.rI 50 r' = nI (C + r')) → mTo (mX5_begin_go F k' 2 (nI r) (nI c) V1) (fun p => lpM p.2 R C (stS a R C))) := by
    intro k'
    induction k' with
    | zero => exact ⟨fun r V1 h => by omega, fun r c V1 h => by omega⟩
    | succ k ih =>
      obtain ⟨ih1, ih2⟩ := ih
      refine ⟨fun r V1 h1 h2 hE hL => ?_, fun r c V1 h1 h2 h3 hE hL => ?_⟩
      · obtain ⟨m1, m2, m3, m4, m5, m6, m7⟩ := id hE
        rw [mX5_begin_go, if_neg (by decide), if_pos rfl]
        unfold mX5_begin_b1
        refine mTo.le m1 rfl (by omega) (by omega) (fun z => mTo.ret ?_) (fun z => mTo.ix rfl (by omega) (by omega) (mTo.lt ?_))
        · have er : r = R := by omega
          subst er
          refine ⟨m1, m2, m3, m4, fun r' c' a1 a2 => ?_, fun r' a1 => hL r' a1, fun c' a1 => ?_⟩
          · show V1.rJ (36 + r') c' = jO (if r' = r then dsz r (fun i => a (if c' = C then C + r else c') i) else a (if c' = C then C + r else c') r')
            by_cases e : r' = r
            · rw [if_pos e, e, m6 c' a2, if_neg (Nat.not_lt_zero _)]
            · rw [if_neg e, m5 r' c' (by omega) a2]
          · show V1.rI 51 c' = nI (if c' = C then C + r else c')
            rw [if_neg (by omega)]
            exact m7 c' a1
        · refine ih2 r 0 _ (by omega) z (by omega) ⟨m1, m2, m3, m4, m5, m6, fun c' a1 => ?_⟩ (fun r' a1 => ?_)
          · rw [mI_no (by decide)]
            exact m7 c' a1
          · rw [mI_at (nI_clamp (n := r) (by omega))]
            by_cases e : r' = r
            · rw [if_pos e, m2, e]
              exact nI_add _ _
            · rw [if_neg e]
              exact hL r' (by omega)
      · obtain ⟨m1, m2, m3, m4, m5, m6, m7⟩ := id hE
        rw [mX5_begin_go, if_neg (by decide), if_neg (by decide), if_pos rfl]
        unfold mX5_begin_b2
        refine mTo.ltI m2 rfl (by omega) (by omega) (fun z => mTo.lt ?_) (fun z => mTo.ix m1 (by omega) (by omega) (mTo.ix rfl (by omega) (by omega) (mTo.ix rfl (by omega) (by omega) (mTo.ix rfl (by omega) (by omega) (mTo.ix rfl (by omega) (by omega) (mTo.lt (mTo.lt ?_)))))))
        · rw [nI_1]
          refine ih1 (r + 1) V1 (by omega) (by omega) ⟨m1, m2, m3, m4, m5, fun c' a1 => ?_, m7⟩ hL
          rw [m6 c' a1, if_pos (by omega), if_neg (Nat.not_lt_zero _)]
        · rw [m1, nI_clamp (n := R) (by omega), nI_clamp (n := r) (by omega), nI_clamp (n := c) (by omega), m6 c (by omega), if_neg (Nat.lt_irrefl _), m5 r c h2 (by omega), jO_add, nI_1]
          refine ih2 r (c + 1) _ (by omega) h2 (by omega) ⟨m1, m2, m3, m4, fun r' c' a1 a2 => ?_, fun c' a1 => ?_, m7⟩ hL
          · rw [mJ_no (by omega)]
            exact m5 r' c' a1 a2
          · rw [mJ_at (nI_clamp (n := c) (by omega))]
            by_cases e : c' = c
            · rw [if_pos e, if_pos (show c' < c + 1 by omega), e]
              rfl
            · rw [if_neg e, m6 c' a1]
              congr 2
              by_cases f : c' < c
              · rw [if_pos f, if_pos (by omega)]
              · rw [if_neg f, if_neg (by omega)]
  have go0 : ∀ k' c (V1 : mV), (C - c) + 1 + (R + 1) * 20 ≤ k' → c ≤ C → V1.fI 4 4 = nI R → V1.fI 4 5 = nI C → V1.fJ 4 6 = 1 → V1.fI 4 3 = 0 → V1.rJ = V.rJ → (∀ c', c' < c → V1.rI 51 c' = nI c') → mTo (mX5_begin_go F k' 0 (nI c) 0 V1) (fun p => lpM p.2 R C (stS a R C)) := by
    intro k'
    induction k' with
    | zero => exact fun c V1 h => by omega
    | succ k ih =>
      intro c V1 h1 h2 e1 e2 e3 e4 e5 e6
      rw [mX5_begin_go, if_pos rfl]
      unfold mX5_begin_b0
      refine mTo.le e2 rfl (by omega) (by omega) (fun z => ?_) (fun z => mTo.ix rfl (by omega) (by omega) (mTo.lt (mTo.lt ?_)))
      · refine (go k).1 0 V1 (by omega) (Nat.zero_le _) ⟨e1, e2, e3, e4, fun r c hr hc => by rw [e5]; exact hM.2.2.1 r c hr hc, fun c' hc => ?_, fun c' hc => e6 c' (by omega)⟩ (fun r' h => absurd h (Nat.not_lt_zero _))
        rw [e5, hM.2.2.2 c' hc, if_neg (Nat.not_lt_zero _)]
        rfl
      · rw [nI_1]
        refine ih (c + 1) _ (by omega) (by omega) e1 e2 e3 e4 e5 (fun c' hc => ?_)
        rw [mI_at (nI_clamp (n := c) (by omega))]
        by_cases e : c' = c
        · rw [if_pos e, e]
        · rw [if_neg e]
          exact e6 c' (by omega)
  unfold mX5_begin mX5_begin_s
  refine mTo.lt (mTo.lt ?_)
  refine go0 F 0 _ (by omega) (Nat.zero_le _) ?_ ?_ ?_ mF_at rfl (fun c' h => absurd h (Nat.not_lt_zero _))
  · rw [mF_no (Or.inr (by decide))]
    exact hM.1
  · rw [mF_no (Or.inr (by decide))]
    exact hM.2.1
  · show (mG V 4 6 1).fJ 4 6 = 1
    exact mG_at
theorem bm32 {z : Int} (h1 : -2147483648 ≤ z) (h2 : z < 2147483648) : Int.bmod z (2 ^ 32) = z := by
  simp only [Int.bmod]
  omega
theorem sg32 {d : Nat → Int32} {m i : Nat} {b : Int32} {x : Int32} (hx : x.toInt.natAbs ≤ 60) {S : Int32} (hS : S = if (0 : Int32) ≤ lmI d m b i then 1 else -1) : Int32.toInt64 (S * x) = jO (sgL d m b i * x.toInt) ∧ Int32.toInt64 S = jO (sgL d m b i) := by
  have e : S.toInt = sgL d m b i := by
    rw [hS]
    unfold sgL
    by_cases z : (0 : Int32) ≤ lmI d m b i
    · have := Int32.le_iff_toInt_le.mp z
      rw [show (0 : Int32).toInt = 0 from rfl] at this
      rw [if_pos z, if_neg (show ¬ lmZ d m b i < 0 from Int.not_lt.mpr this)]
      rfl
    · have : ¬ (0 : Int32).toInt ≤ (lmI d m b i).toInt := fun y => z (Int32.le_iff_toInt_le.mpr y)
      rw [show (0 : Int32).toInt = 0 from rfl] at this
      rw [if_neg z, if_pos (show lmZ d m b i < 0 from Int.not_le.mp this)]
      rfl
  have n := sgL_n d m b i
  have p : (sgL d m b i * x.toInt).natAbs ≤ 60 := by
    rw [Int.natAbs_mul, n, Nat.one_mul]
    exact hx
  refine ⟨?_, by rw [jO_32, e]⟩
  rw [jO_32, Int32.toInt_mul, e, bm32 (by omega) (by omega)]
end
