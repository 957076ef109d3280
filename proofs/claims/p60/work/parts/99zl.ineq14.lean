/-! THE PURE PART, inequalities: the machine's turns. -/
section
def okS (a : Nat → Nat → Int) (R C : Nat) (S : lpS) : Prop := lpI a R C S ∧ sK S < 2 ^ 30
theorem okS_B {a : Nat → Nat → Int} {R C : Nat} {S : lpS} (h : okS a R C S) (hb : bdA a R C 47239200) (hR : R ≤ 13) (hC : C ≤ 17) : lpB R C S := by
  obtain ⟨h, hK⟩ := h
  refine ⟨hR, hC, fun r c hr hc => ?_, h.2.1, ?_, hK, fun r hr => ?_, fun c hc => ?_⟩
  · by_cases z : r = R
    · rw [z]
      have := lp_G h hb hc
      have := Nat.mul_le_mul hR (Nat.le_refl 47239200)
      omega
    · have := lp_T h hb (show r < R by omega) hc
      omega
  · have := lp_L h hb
    omega
  · have := h.2.2.2.1.1 r hr
    omega
  · have := h.2.2.2.1.2.1 c hc
    omega
theorem imp_okS {a : Nat → Nat → Int} {R C goal : Nat} {S S' : lpS} (h : okS a R C S) (hR : R ≤ 13) (hC : C ≤ 17) (he : impS S R C goal = some S') : okS a R C S' := by
  obtain ⟨row, col, x1, x2, _, _, e, _, _, _, _, _, i⟩ := imp_ok h.1 he
  refine ⟨i, ?_⟩
  have hK := h.2
  have l := h.1.2.2.2.1.1 row x1
  rw [e]
  show (if C ≤ sR S row then sK S ||| 2 ^ sR S row else sK S) < 2 ^ 30
  split
  · exact nb_or_lt hK (nb_p2 (by omega))
  · exact hK
theorem T_improves {a : Nat → Nat → Int} {F R C goal : Nat} {S : lpS} {V : mV} (hF : 2 ^ 12 ≤ F) (hM : lpM V R C S) (hI : lpI a R C S) (hB : lpB R C S) (hg : goal ≤ R) : mTo (mX5_improves F (nI goal) V) (fun p => (impS S R C goal = none ∧ p.1 = 0 ∧ lpM p.2 R C S) ∨ ∃ S', impS S R C goal = some S' ∧ p.1 = 1 ∧ lpM p.2 R C S') := by
  obtain ⟨b1, b2, b3, _, _, b6, b7, b8⟩ := id hB
  obtain ⟨m1, m2, m3, m4, m5, m6, m7⟩ := id hM
  have go : ∀ k', (∀ c, (C - c) * 4 + 1 ≤ k' → c ≤ C → mTo (mX5_improves_go F k' 0 (nI goal) (opI (entC S goal c)) (nI c) 0 V) (fun p => (impS S R C goal = none ∧ p.1 = 0 ∧ lpM p.2 R C S) ∨ ∃ S', impS S R C goal = some S' ∧ p.1 = 1 ∧ lpM p.2 R C S')) ∧ (∀ c (s0 : Int32), (C - c - 1) * 4 + 2 ≤ k' → c < C → (s0 ≠ 0 ↔ ∀ b, entC S goal c = some b → sC S c < sC S b) → mTo (mX5_improves_go F k' 1 (nI goal) (opI (entC S goal c)) (nI c) s0 V) (fun p => (impS S R C goal = none ∧ p.1 = 0 ∧ lpM p.2 R C S) ∨ ∃ S', impS S R C goal = some S' ∧ p.1 = 1 ∧ lpM p.2 R C S')) := by
    intro k'
    induction k' with
    | zero => exact ⟨fun c h => by omega, fun c s0 h => by omega⟩
    | succ k ih =>
      obtain ⟨ih0, ih1⟩ := ih
      refine ⟨fun c h1 h2 => ?_, fun c s0 h1 h2 hs => ?_⟩
      · rw [mX5_improves_go, if_pos rfl]
        unfold mX5_improves_b0
        refine mTo.le m2 rfl (by omega) (by omega) (fun z => ?_) (fun z => ?_)
        · have ec : c = C := by omega
          subst ec
          cases q : entC S goal c with
          | none =>
            refine mTo.ite (fun w => absurd (show (0 : Int32) ≤ -1 from w) (by decide)) (fun _ => mTo.ret (Or.inl ⟨?_, rfl, hM⟩))
            unfold impS
            rw [q]
          | some col =>
            have hc := ((ent_sp c).1 col q).1
            refine mTo.ite (fun _ => mTo.so (T_leavingRow (by omega) hM hB hc) ?_) (fun w => absurd (Int32.not_lt.mp (nI_pos (n := col) (by omega))) w)
            cases q2 : lvR S c col R with
            | none =>
              refine mTo.ite (fun w => absurd (show (0 : Int32) ≤ -1 from w) (by decide)) (fun _ => mTo.ret (Or.inl ⟨?_, rfl, hM⟩))
              unfold impS
              rw [q]
              dsimp only
              rw [q2]
            | some row =>
              have e : impS S R c goal = some (exS S c row col) := by
                unfold impS
                rw [q]
                dsimp only
                rw [q2]
              obtain ⟨x1, x2, x3⟩ := (lv_sp R).1 row q2
              refine mTo.ite (fun _ => mTo.W (T_exchange hF hM hB x1 hc x2) (fun a V1 _ q' => mTo.ret (Or.inr ⟨_, e, rfl, q'⟩))) (fun w => absurd (Int32.not_lt.mp (nI_pos (n := row) (by omega))) w)
        · cases q : entC S goal c with
          | none =>
            refine mTo.ite (fun _ => ?_) (fun w => absurd lt_m1 w)
            have := ih1 c 1 (by omega) z ⟨fun _ b hb => (by rw [q] at hb; cases hb), fun _ => by decide⟩
            rw [q] at this
            exact this
          | some b =>
            have hb := ((ent_sp c).1 b q).1
            refine mTo.ite (fun w => absurd w (nI_pos (n := b) (by omega))) (fun _ => mTo.ix rfl (by omega) (by omega) (mTo.ix (c := b) rfl (by omega) (by omega) ?_))
            show mTo (if V.rI 51 (nI b).toNatClampNeg ≤ V.rI 51 (nI c).toNatClampNeg then _ else _) _
            rw [nI_clamp (n := b) (by omega), nI_clamp (n := c) (by omega), m7 b (by omega), m7 c z]
            have l1 := b8 b (by omega)
            have l2 := b8 c z
            refine mTo.le rfl rfl (by omega) (by omega) (fun w => ?_) (fun w => ?_)
            · have := ih1 c 0 (by omega) z ⟨fun h => absurd rfl h, fun h => by
                have := h b q
                omega⟩
              rw [q] at this
              exact this
            · have := ih1 c 1 (by omega) z ⟨fun _ b' hb' => (by
                rw [q] at hb'
                cases hb'
                exact w), fun _ => by decide⟩
              rw [q] at this
              exact this
      · rw [mX5_improves_go, if_neg (by decide), if_pos rfl]
        unfold mX5_improves_b1
        have t1 := b3 goal c hg (by omega)
        have l2 := b8 c h2
        have ih := ih0 (c + 1) (by omega) (by omega)
        rw [entC] at ih
        refine mTo.ix rfl (by omega) (by omega) (mTo.ix rfl (by omega) (by omega) ?_)
        rw [nI_clamp (n := goal) (by omega), nI_clamp (n := c) (by omega), m5 goal c hg (by omega), m4, m7 c h2]
        refine mTo.ite (fun y => mTo.lt ?_) (fun y => mTo.ic rfl (by omega) (by omega) (mTo.ite (fun w => mTo.ite (fun x => mTo.lt ?_) (fun x => mTo.lt ?_)) (fun w => mTo.lt ?_)))
        · have y := (cmple0 (by omega)).mp y
          rw [if_neg (fun h => by
            have := h.1
            omega)] at ih
          rw [nI_1]
          exact ih
        · rw [if_neg (fun h => hs.mpr h.2.2 x)] at ih
          rw [nI_1]
          exact ih
        · have y : 0 < sT S goal c := Int.not_le.mp fun w => y ((cmple0 (by omega)).mpr w)
          rw [if_pos ⟨y, (nb_bit (by omega) (by omega)).mp w, hs.mp x⟩] at ih
          rw [nI_1]
          exact ih
        · rw [if_neg (fun h => w ((nb_bit (by omega) (by omega)).mpr h.2.1))] at ih
          rw [nI_1]
          exact ih
  unfold mX5_improves mX5_improves_s
  exact (go F).1 0 (by omega) (Nat.zero_le _)
theorem stI_okS {a : Nat → Nat → Int} {R C goal : Nat} {S : lpS} (h : okS a R C S) (hR : R ≤ 13) (hC : C ≤ 17) : ∀ k, okS a R C (stI R C goal S k)
  | 0 => h
  | k + 1 => by
    have ih := stI_okS (goal := goal) h hR hC k
    rw [stI]
    split
    · exact ih
    · rename_i S' q
      exact imp_okS ih hR hC q
theorem T_isFulL {a : Nat → Nat → Int} {F R C k : Nat} {S : lpS} {V : mV} (hF : 2 ^ 18 ≤ F) (hM : lpM V R C S) (hI : okS a R C S) (hb : bdA a R C 47239200) (hR : R ≤ 13) (hC : C ≤ 17) (hk : k < 50000) (k1 : impS (stI R C R S k) R C R = none) (k2 : ∀ j, j < k → impS (stI R C R S j) R C R ≠ none) : mTo (mX5_isFulfilled F V) (fun p => lpM p.2 R C (fulS S R C) ∧ (p.1 = 0 ∨ p.1 = 1) ∧ (p.1 ≠ 0 ↔ sT (fulS S R C) R C = 0)) := by
  have e : stI R C R S 100000 = stI R C R S k := by
    have := stI_0 k1 (100000 - k)
    rw [show k + (100000 - k) = 100000 by omega] at this
    exact this
  have go : ∀ k' t (V1 : mV), (k - t) + 1 ≤ k' → t ≤ k → lpM V1 R C (stI R C R S t) → mTo (mX5_isFulfilled_go F k' 0 (nI t) V1) (fun p => lpM p.2 R C (fulS S R C) ∧ (p.1 = 0 ∨ p.1 = 1) ∧ (p.1 ≠ 0 ↔ sT (fulS S R C) R C = 0)) := by
    intro k'
    induction k' with
    | zero => exact fun t V1 h => by omega
    | succ n ih =>
      intro t V1 h1 h2 hM1
      have ok := stI_okS (goal := R) hI hR hC t
      have B := okS_B ok hb hR hC
      rw [mX5_isFulfilled_go, if_pos rfl]
      unfold mX5_isFulfilled_b0
      refine mTo.le (a := 100000) rfl rfl (by omega) (by omega) (fun z => by omega) (fun z => ?_)
      rw [hM1.1]
      refine mTo.W (T_improves (by omega) hM1 ok.1 B (Nat.le_refl _)) (fun v V2 _ q => ?_)
      rcases q with ⟨q1, q2, q3⟩ | ⟨S', q1, q2, q3⟩
      · have et : t = k := by
          refine Classical.byContradiction fun w => k2 t (by omega) q1
        subst et
        have q2 : v = 0 := q2
        have q3 : lpM V2 R C (stI R C R S t) := q3
        rw [if_pos q2, q3.1]
        refine mTo.W (T_lockRising (by omega) q3 B (Nat.le_refl _)) (fun v3 V3 _ r => ?_)
        have r : lpM V3 R C (fulS S R C) := by
          unfold fulS
          rw [e]
          exact r
        have tb : (sT (fulS S R C) R C).natAbs < 2 ^ 30 := by
          unfold fulS
          rw [e]
          exact B.2.2.1 R C (Nat.le_refl _) (Nat.le_refl _)
        refine mTo.ix r.1 (by omega) (by omega) (mTo.ix r.2.1 (by omega) (by omega) ?_)
        rw [r.1, r.2.1, nI_clamp (n := R) (by omega), nI_clamp (n := C) (by omega), r.2.2.2.2.1 R C (Nat.le_refl _) (Nat.le_refl _)]
        refine mTo.ite (fun w => mTo.ret ⟨r, Or.inr rfl, fun _ => (cmpZ (by omega)).mp w, fun _ => by show (1 : Int32) ≠ 0; decide⟩) (fun w => mTo.ret ⟨r, Or.inl rfl, fun y => absurd rfl y, fun y => absurd ((cmpZ (by omega)).mpr y) w⟩)
      · have lt : t < k := by
          refine Nat.lt_of_not_le fun w => ?_
          rw [show t = k by omega, k1] at q1
          cases q1
        have q2 : v = 1 := q2
        rw [if_neg (show ¬ v = 0 by rw [q2]; decide)]
        refine mTo.lt ?_
        rw [nI_1]
        refine ih (t + 1) V2 (by omega) (by omega) ?_
        rw [stI_1 q1]
        exact q3
  unfold mX5_isFulfilled mX5_isFulfilled_s
  exact go F 0 V (by omega) (Nat.zero_le _) hM
theorem mnI_0 {R C l k : Nat} {S : lpS} (h : rwF (mnI R C l S k) l R = none ∨ ∃ row, rwF (mnI R C l S k) l R = some row ∧ impS (mnI R C l S k) R C row = none) : ∀ d, mnI R C l S (k + d) = mnI R C l S k
  | 0 => rfl
  | d + 1 => by
    have ih := mnI_0 h d
    rw [show k + (d + 1) = k + d + 1 by omega, mnI, ih]
    rcases h with h | ⟨row, h, h2⟩
    · rw [h]
    · rw [h]
      dsimp only
      rw [h2]
theorem mnI_okS {a : Nat → Nat → Int} {R C l : Nat} {S : lpS} (h : okS a R C S) (hR : R ≤ 13) (hC : C ≤ 17) : ∀ k, okS a R C (mnI R C l S k)
  | 0 => h
  | k + 1 => by
    have ih := mnI_okS (l := l) h hR hC k
    rw [mnI]
    split
    · exact ih
    · split
      · exact ih
      · rename_i row _ S' q
        exact imp_okS ih hR hC q
theorem mnS_okS {a : Nat → Nat → Int} {R C l : Nat} {S : lpS} (h : okS a R C S) (hR : R ≤ 13) (hC : C ≤ 17) (hl : l < 30) : okS a R C (mnS S R C l) := by
  have ok := mnI_okS (l := l) h hR hC 100000
  unfold mnS
  split
  · obtain ⟨⟨a1, a2, a3, a4, a5, a6⟩, hK⟩ := ok
    exact ⟨⟨a1, a2, a3, a4, a5, fun c hc hl => by
      show (sK (mnI R C l S 100000) ||| 2 ^ l).testBit _ = true
      rw [Nat.testBit_or, a6 c hc hl]
      rfl⟩, nb_or_lt hK (nb_p2 hl)⟩
  · exact ⟨lkS_I ok.1, lkN_lt ok.2 (fun c hc => by
      have := ok.1.2.2.2.1.2.1 c hc
      omega) C (Nat.le_refl _)⟩
theorem T_minimise {a : Nat → Nat → Int} {F R C l : Nat} {S : lpS} {V : mV} (hF : 2 ^ 18 ≤ F) (hM : lpM V R C S) (hI : okS a R C S) (hb : bdA a R C 47239200) (hR : R ≤ 13) (hC : C ≤ 17) (hl : l < 30) : mTo (mX5_minimise F (nI l) V) (fun p => lpM p.2 R C (mnS S R C l)) := by
  have fin : ∀ V1, lpM V1 R C (mnI R C l S 100000) → mTo (mBN (mX5_rowOf F (nI l) V1) fun v2 => (if 0 ≤ v2 then (mBW (mX5_lockRising F (v2) V1) fun _ V9 => some ((), V9)) else (mLt (mF V1 4 3 (((V1.fI 4 3) ||| ((1 : Int32) <<< (nI l &&& 31))))) fun V13 => some ((), V13)))) (fun p => lpM p.2 R C (mnS S R C l)) := fun V1 h => by
    have ok := mnI_okS (l := l) hI hR hC 100000
    have B := okS_B ok hb hR hC
    refine mTo.so (T_rowOf (by omega) h B hl) ?_
    unfold mnS
    cases q : rwF (mnI R C l S 100000) l R with
    | none =>
      refine mTo.ite (fun w => absurd (show (0 : Int32) ≤ -1 from w) (by decide)) (fun _ => mTo.lt (mTo.ret ?_))
      show lpM (mF V1 4 3 (((V1.fI 4 3) ||| ((1 : Int32) <<< (nI l &&& 31))))) R C _
      rw [h.2.2.2.1, nb_one (by omega), nb_or]
      exact lpM_K h
    | some row =>
      have hr := ((rwF_sp R).1 row q).1
      exact mTo.ite (fun _ => mTo.W (T_lockRising (by omega) h B (Nat.le_of_lt hr)) (fun _ V3 _ r => mTo.ret r)) (fun w => absurd (Int32.not_lt.mp (nI_pos (n := row) (by omega))) w)
  have go : ∀ k' t (V1 : mV), (100000 - t) + 1 ≤ k' → t ≤ 100000 → lpM V1 R C (mnI R C l S t) → mTo (mX5_minimise_go F k' 0 (nI l) (nI t) V1) (fun p => lpM p.2 R C (mnS S R C l)) := by
    intro k'
    induction k' with
    | zero => exact fun t V1 h => by omega
    | succ n ih =>
      intro t V1 h1 h2 hM1
      have ok := mnI_okS (l := l) hI hR hC t
      have B := okS_B ok hb hR hC
      have stuck : (rwF (mnI R C l S t) l R = none ∨ ∃ row, rwF (mnI R C l S t) l R = some row ∧ impS (mnI R C l S t) R C row = none) → mnI R C l S 100000 = mnI R C l S t := fun h => by
        have := mnI_0 h (100000 - t)
        rw [show t + (100000 - t) = 100000 by omega] at this
        exact this
      rw [mX5_minimise_go, if_pos rfl]
      unfold mX5_minimise_b0
      refine mTo.le (a := 100000) rfl rfl (by omega) (by omega) (fun z => ?_) (fun z => mTo.so (T_rowOf (by omega) hM1 B hl) ?_)
      · rw [show t = 100000 by omega] at hM1
        exact fin V1 hM1
      · cases q : rwF (mnI R C l S t) l R with
        | none =>
          refine mTo.ite (fun _ => fin V1 ?_) (fun w => absurd lt_m1 w)
          rw [stuck (Or.inl q)]
          exact hM1
        | some row =>
          have hr := ((rwF_sp R).1 row q).1
          refine mTo.ite (fun w => absurd w (nI_pos (n := row) (by omega))) (fun _ => mTo.W (T_improves (by omega) hM1 ok.1 B (Nat.le_of_lt hr)) (fun v V2 _ q' => ?_))
          rcases q' with ⟨q1, q2, q3⟩ | ⟨S', q1, q2, q3⟩
          · have q2 : v = 0 := q2
            rw [if_pos q2]
            refine fin V2 ?_
            rw [stuck (Or.inr ⟨row, q, q1⟩)]
            exact q3
          · have q2 : v = 1 := q2
            rw [if_neg (show ¬ v = 0 by rw [q2]; decide)]
            refine mTo.lt ?_
            rw [nI_1]
            refine ih (t + 1) V2 (by omega) (by omega) ?_
            rw [mnI, q]
            dsimp only
            rw [q1]
            exact q3
  unfold mX5_minimise mX5_minimise_s
  exact go F 0 V (by omega) (Nat.zero_le _) hM
end
