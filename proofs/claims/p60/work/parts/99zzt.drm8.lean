/-! THE PURE PART, drawings: the judge of cores. -/
section
theorem wn_none {nb : Nat → Nat} {u k : Nat} (h : wnF nb u k = none) : ∀ j, wnF nb u (k + j) = none
  | 0 => h
  | j + 1 => by
    show wnF nb u (k + j + 1) = none
    rw [wnF, wn_none h j]
theorem ws_none {nb : Nat → Nat} {k : Nat} (h : wsF nb k = none) : ∀ j, wsF nb (k + j) = none
  | 0 => h
  | j + 1 => by
    show wsF nb (k + j + 1) = none
    rw [wsF, ws_none h j]
theorem wn_b {nb : Nat → Nat} {u : Nat} (h7 : ∀ u, nb u < 128) (hu : u < 7) : ∀ k m g, k ≤ 7 → wnF nb u k = some (m, g) → m < 128 ∧ g ≤ 22 * k
  | 0, m, g, _, h => by
    rw [wnF] at h
    have := Prod.mk.inj (Option.some.inj h)
    rw [← this.1, ← this.2]
    exact ⟨by decide, by decide⟩
  | k + 1, m, g, hk, h => by
    rw [wnF] at h
    cases e : wnF nb u k with
    | none => rw [e] at h; cases h
    | some p =>
      obtain ⟨m0, g0⟩ := p
      rw [e] at h
      dsimp only at h
      obtain ⟨i1, i2⟩ := wn_b h7 hu k m0 g0 (by omega) e
      by_cases c : 2 < degN nb u ∧ (nb u).testBit k = true
      · rw [if_pos c] at h
        by_cases c2 : (fwN nb 21 u k 1).1 = u ∨ m0.testBit (fwN nb 21 u k 1).1 = true
        · rw [if_pos c2] at h
          cases h
        · rw [if_neg c2] at h
          have := Prod.mk.inj (Option.some.inj h)
          obtain ⟨f1, f2, f3⟩ := fwN_b h7 21 u k 1 (by omega) hu
          rw [← this.1, ← this.2]
          exact ⟨nb_or_lt (n := 7) i1 (nb_p2 f1), by omega⟩
      · rw [if_neg c] at h
        have := Prod.mk.inj (Option.some.inj h)
        rw [← this.1, ← this.2]
        exact ⟨i1, by omega⟩
theorem ws_b {nb : Nat → Nat} (h7 : ∀ u, nb u < 128) : ∀ k g, k ≤ 7 → wsF nb k = some g → g ≤ 154 * k
  | 0, g, _, h => by
    rw [wsF] at h
    rw [← Option.some.inj h]
    exact Nat.zero_le _
  | k + 1, g, hk, h => by
    rw [wsF] at h
    cases e : wsF nb k with
    | none => rw [e] at h; cases h
    | some g0 =>
      rw [e] at h
      dsimp only at h
      cases e2 : wnF nb k 7 with
      | none => rw [e2] at h; cases h
      | some p =>
        obtain ⟨m, g'⟩ := p
        rw [e2] at h
        dsimp only at h
        have := ws_b h7 k g0 (by omega) e
        have := (wn_b h7 (by omega) 7 m g' (Nat.le_refl _) e2).2
        rw [← Option.some.inj h]
        omega
/-- no neighbours: no ways -/
theorem wn_ext {nb : Nat → Nat} {u k : Nat} (h : ∀ i, k ≤ i → i < 7 → (nb u).testBit i = false) : ∀ j, k + j ≤ 7 → wnF nb u (k + j) = wnF nb u k
  | 0, _ => rfl
  | j + 1, hj => by
    show wnF nb u (k + j + 1) = _
    rw [wnF, wn_ext h j (by omega)]
    cases wnF nb u k with
    | none => rfl
    | some p =>
      dsimp only
      rw [if_neg (fun c => by rw [h (k + j) (by omega) (by omega)] at c; exact absurd c.2 (by decide))]
theorem wn_zero {nb : Nat → Nat} {u : Nat} (h : nb u = 0) : wnF nb u 7 = some (0, 0) := by
  have := wn_ext (nb := nb) (u := u) (k := 0) (fun i _ _ => by rw [h, Nat.zero_testBit]) 7 (by decide)
  exact this
theorem ws_ext {nb : Nat → Nat} {k : Nat} (h : ∀ u, k ≤ u → nb u = 0) : ∀ j, wsF nb (k + j) = wsF nb k
  | 0 => rfl
  | j + 1 => by
    show wsF nb (k + j + 1) = _
    rw [wsF, ws_ext h j]
    cases wsF nb k with
    | none => rfl
    | some g =>
      dsimp only
      rw [wn_zero (h _ (by omega))]
      rfl
theorem wy_zero {nb : Nat → Nat} {u : Nat} (h : nb u = 0) : wyN nb u = 0 := by
  unfold wyN
  rw [wn_zero h]
theorem rt_ext {nb : Nat → Nat} {k : Nat} (h : ∀ u, k ≤ u → nb u = 0) : ∀ j, rtP nb (k + j) = rtP nb k
  | 0 => rfl
  | j + 1 => by
    show rtP nb (k + j + 1) = _
    rw [rtP, if_pos (wy_zero (h _ (by omega))), rt_ext h j]
theorem wy_lt {nb : Nat → Nat} (h7 : ∀ u, nb u < 128) {u : Nat} (hu : u < 7) : wyN nb u < 128 := by
  unfold wyN
  cases e : wnF nb u 7 with
  | none => show 0 < 128; decide
  | some p => exact (wn_b h7 hu 7 p.1 p.2 (Nat.le_refl _) e).1
theorem rt_lt {nb : Nat → Nat} (h7 : ∀ u, nb u < 128) : ∀ k, k ≤ 7 → (rtP nb k).1 < 128 ∧ (rtP nb k).2 < 128
  | 0, _ => ⟨show (0 : Nat) < 128 by decide, show (0 : Nat) < 128 by decide⟩
  | k + 1, h => by
    have ih := rt_lt h7 k (by omega)
    rw [rtP]
    by_cases c : wyN nb k = 0
    · rw [if_pos c]
      exact ih
    · rw [if_neg c]
      exact ⟨nb_or_lt (n := 7) ih.1 (nb_p2 (show k < 7 by omega)), wy_lt h7 (by omega)⟩
theorem T_areTwoHalves {F n : Nat} {nb : Nat → Nat} {V : mV} (hF : 64 ≤ F) (hg : gph nb n) (h1 : V.fI 3 8 = nI n) (hw : ∀ u, u < 7 → V.rI 34 u = nI (wyN nb u)) : mTo (mX2_areTwoHalves F V) (fun v => (v = 0 ∨ v = 1) ∧ (v ≠ 0 ↔ hvB nb (rtP nb 7).1 (rtP nb 7).2 = true)) := by
  obtain ⟨g1, g2, g3, g4, g5, g6⟩ := id hg
  have e7 : rtP nb 7 = rtP nb n := by
    have := rt_ext (nb := nb) (k := n) (fun u hu => g5 u hu) (7 - n)
    rw [show n + (7 - n) = 7 by omega] at this
    exact this
  rw [e7]
  obtain ⟨l1, l2⟩ := rt_lt g4 n g1
  have hv : hvB nb (rtP nb n).1 (rtP nb n).2 = true ↔ (∀ u, u < 7 → wyN nb u &&& (if (rtP nb n).2.testBit u = true then (rtP nb n).2 else nsd (rtP nb n).1 (rtP nb n).2) = 0) ∧ cnt (fun i => (rtP nb n).2.testBit i) 7 = 3 := by
    unfold hvB
    rw [Bool.and_eq_true]
    constructor
    · rintro ⟨a, b⟩
      exact ⟨fun u hu => Nat.eq_of_beq_eq_true (allN_t a u hu), Nat.eq_of_beq_eq_true b⟩
    · rintro ⟨a, b⟩
      refine ⟨List.all_eq_true.mpr fun u hu => ?_, by rw [b]; rfl⟩
      rw [a u (List.mem_range.mp hu)]
      rfl
  have n1 : (1 : Int32) ≠ 0 := by decide
  have lab1 : ∀ k' j, 8 < j + k' → j ≤ n → (∀ u, u < j → wyN nb u &&& (if (rtP nb n).2.testBit u = true then (rtP nb n).2 else nsd (rtP nb n).1 (rtP nb n).2) = 0) → mTo (mX2_areTwoHalves_go F k' 1 (nI (rtP nb n).2) (nI (rtP nb n).1) (nI j) V) (fun v => (v = 0 ∨ v = 1) ∧ (v ≠ 0 ↔ hvB nb (rtP nb n).1 (rtP nb n).2 = true)) := by
    intro k'
    induction k' with
    | zero => intro j a b; omega
    | succ k ih =>
      intro j a b c
      rw [mX2_areTwoHalves_go, if_neg (by decide), if_pos rfl]
      unfold mX2_areTwoHalves_b1
      refine mTo.le h1 rfl (by omega) (by omega) (fun z => ?_) (fun z => ?_)
      · have all : ∀ u, u < 7 → wyN nb u &&& (if (rtP nb n).2.testBit u = true then (rtP nb n).2 else nsd (rtP nb n).1 (rtP nb n).2) = 0 := fun u hu => by
          by_cases d : u < j
          · exact c u d
          · rw [wy_zero (g5 u (by omega)), Nat.zero_and]
        refine mTo.so (T_pop (by omega)) ?_
        rw [pop_n (n := 7) l2 (by decide)]
        have c7 := cnt_n (X := fun i => (rtP nb n).2.testBit i) 7
        refine mTo.eqI (b := 3) rfl rfl (by omega) (by omega) (fun y => mTo.ret ⟨Or.inr rfl, fun _ => hv.mpr ⟨all, y⟩, fun _ => n1⟩) (fun y => mTo.ret ⟨Or.inl rfl, fun c => absurd rfl c, fun c => absurd (hv.mp c).2 y⟩)
      · have wl := wy_lt g4 (show j < 7 by omega)
        have next : wyN nb j &&& (if (rtP nb n).2.testBit j = true then (rtP nb n).2 else nsd (rtP nb n).1 (rtP nb n).2) = 0 → mTo (mX2_areTwoHalves_go F k 1 (nI (rtP nb n).2) (nI (rtP nb n).1) (nI (j + 1)) V) (fun v => (v = 0 ∨ v = 1) ∧ (v ≠ 0 ↔ hvB nb (rtP nb n).1 (rtP nb n).2 = true)) := fun x => ih (j + 1) (by omega) (by omega) (fun u hu => by
          by_cases d : u = j
          · rw [d]; exact x
          · exact c u (by omega))
        refine mTo.hs (S := (rtP nb n).2) (j := j) rfl rfl (by omega) (by omega) (fun y => mTo.lt (mTo.ix rfl (by omega) (by omega) ?_)) (fun y => mTo.ix rfl (by omega) (by omega) ?_)
        · rw [nI_clamp (n := j) (by omega), hw j (by omega), nb_not (by omega), nb_and]
          rw [if_neg (by rw [y]; decide)] at next
          have al : wyN nb j &&& nsd (rtP nb n).1 (rtP nb n).2 < 128 := nb_and_lt (n := 7) wl
          refine mTo.eqI (b := 0) rfl rfl (by omega) (by omega) (fun x => mTo.lt ?_) (fun x => mTo.ret ⟨Or.inl rfl, fun c => absurd rfl c, fun c => ?_⟩)
          · rw [nI_1]; exact next x
          · have := (hv.mp c).1 j (by omega)
            rw [if_neg (by rw [y]; decide)] at this
            exact absurd this x
        · rw [nI_clamp (n := j) (by omega), hw j (by omega), nb_and]
          rw [if_pos y] at next
          have al : wyN nb j &&& (rtP nb n).2 < 128 := nb_and_lt (n := 7) wl
          refine mTo.eqI (b := 0) rfl rfl (by omega) (by omega) (fun x => mTo.lt ?_) (fun x => mTo.ret ⟨Or.inl rfl, fun c => absurd rfl c, fun c => ?_⟩)
          · rw [nI_1]; exact next x
          · have := (hv.mp c).1 j (by omega)
            rw [if_pos y] at this
            exact absurd this x
  have lab0 : ∀ k' j, 8 + 9 < j + k' → j ≤ n → mTo (mX2_areTwoHalves_go F k' 0 (nI (rtP nb j).2) (nI (rtP nb j).1) (nI j) V) (fun v => (v = 0 ∨ v = 1) ∧ (v ≠ 0 ↔ hvB nb (rtP nb n).1 (rtP nb n).2 = true)) := by
    intro k'
    induction k' with
    | zero => intro j a b; omega
    | succ k ih =>
      intro j a b
      rw [mX2_areTwoHalves_go, if_pos rfl]
      unfold mX2_areTwoHalves_b0
      refine mTo.le h1 rfl (by omega) (by omega) (fun z => ?_) (fun z => mTo.ix rfl (by omega) (by omega) ?_)
      · have : j = n := by omega
        rw [this]
        exact lab1 k 0 (by omega) (Nat.zero_le _) (fun u hu => absurd hu (Nat.not_lt_zero u))
      · have wl := wy_lt g4 (show j < 7 by omega)
        have ih := ih (j + 1) (by omega) (by omega)
        rw [rtP] at ih
        rw [nI_clamp (n := j) (by omega), hw j (by omega)]
        refine mTo.eqI (b := 0) rfl rfl (by omega) (by omega) (fun y => mTo.lt ?_) (fun y => mTo.lt (mTo.ic rfl (by omega) (by omega) (mTo.lt (mTo.lt ?_))))
        · rw [if_pos y] at ih
          rw [nI_1]
          exact ih
        · rw [if_neg y] at ih
          rw [nI_1, nb_one (by omega), nb_or]
          exact ih
  unfold mX2_areTwoHalves mX2_areTwoHalves_s
  exact lab0 F 0 (by omega) (Nat.zero_le _)
/-- what areWaysOf answers -/
def awB (nb : Nat → Nat) (kd : Nat) : Bool := match wsF nb 7 with
  | none => false
  | some g => Nat.beq g (sdN nb 7) && (Nat.beq kd 5 || hvB nb (rtP nb 7).1 (rtP nb 7).2)
theorem T_aW_go {F n kd : Nat} {nb : Nat → Nat} (hF : 64 ≤ F) (hg : gph nb n) (hk : kd = 5 ∨ kd = 3) : ∀ k', (∀ j g (V : mV), (n - j) * 20 + 1 ≤ k' → j ≤ n → V.fI 3 8 = nI n → V.fI 3 9 = nI (sdN nb 7) → (∀ u, u < 7 → V.rI 27 u = nI (nb u)) → wsF nb j = some g → (∀ u, u < 7 → V.rI 34 u = if u < j then nI (wyN nb u) else 0) → mTo (mX2_areWaysOf_go F k' 0 (nI kd) (nI g) (nI j) 0 V) (fun r => (r.1 = 0 ∨ r.1 = 1) ∧ (r.1 ≠ 0 ↔ awB nb kd = true))) ∧ (∀ j i g m gi (V : mV), (n - j - 1) * 20 + (n - i) + 3 ≤ k' → j < n → i ≤ n → V.fI 3 8 = nI n → V.fI 3 9 = nI (sdN nb 7) → (∀ u, u < 7 → V.rI 27 u = nI (nb u)) → wsF nb j = some g → wnF nb j i = some (m, gi) → (∀ u, u < 7 → V.rI 34 u = if u < j then nI (wyN nb u) else if u = j then nI m else 0) → mTo (mX2_areWaysOf_go F k' 1 (nI kd) (nI (g + gi)) (nI j) (nI i) V) (fun r => (r.1 = 0 ∨ r.1 = 1) ∧ (r.1 ≠ 0 ↔ awB nb kd = true))) := by
  obtain ⟨g1, g2, g3, g4, g5, g6⟩ := id hg
  have n1 : (1 : Int32) ≠ 0 := by decide
  intro k'
  induction k' with
  | zero => exact ⟨fun j g V h => by omega, fun j i g m gi V h => by omega⟩
  | succ k ih =>
    obtain ⟨ih0, ih1⟩ := ih
    refine ⟨fun j g V h1 h2 a1 a2 a3 hw h34 => ?_, fun j i g m gi V h1 h2 h3 a1 a2 a3 hw hwn h34 => ?_⟩
    · have gb := ws_b g4 j g (by omega) hw
      rw [mX2_areWaysOf_go, if_pos rfl]
      unfold mX2_areWaysOf_b0
      refine mTo.le a1 rfl (by omega) (by omega) (fun z => ?_) (fun z => ?_)
      · have e7 : wsF nb 7 = some g := by
          have := ws_ext (nb := nb) (k := j) (fun u hu => g5 u (by omega)) (7 - j)
          rw [show j + (7 - j) = 7 by omega] at this
          rw [this, hw]
        have aw : awB nb kd = true ↔ g = sdN nb 7 ∧ (kd = 5 ∨ hvB nb (rtP nb 7).1 (rtP nb 7).2 = true) := by
          unfold awB
          rw [e7]
          dsimp only
          rw [Bool.and_eq_true, Bool.or_eq_true]
          exact ⟨fun c => ⟨Nat.eq_of_beq_eq_true c.1, c.2.imp Nat.eq_of_beq_eq_true id⟩, fun c => ⟨by rw [c.1]; exact Nat.beq_refl _, c.2.imp (fun c => by rw [c]; rfl) id⟩⟩
        have w34 : ∀ u, u < 7 → V.rI 34 u = nI (wyN nb u) := fun u hu => by
          rw [h34 u hu]
          by_cases c : u < j
          · rw [if_pos c]
          · rw [if_neg c, wy_zero (g5 u (by omega))]
            rfl
        refine mTo.eqI rfl a2 (by omega) (by omega) (fun y => ?_) (fun y => mTo.ret ⟨Or.inl rfl, fun c => absurd rfl c, fun c => absurd (aw.mp c).1 y⟩)
        rcases hk with e | e
        · rw [if_pos (show nI kd = (5 : Int32) by rw [e]; rfl)]
          exact mTo.ret ⟨Or.inr rfl, fun _ => aw.mpr ⟨y, Or.inl e⟩, fun _ => n1⟩
        · rw [if_neg (show ¬ nI kd = (5 : Int32) by rw [e]; decide)]
          refine mTo.N (T_areTwoHalves hF hg a1 w34) (fun v _ q => mTo.tf q (fun c => mTo.ret ⟨Or.inl rfl, fun c => absurd rfl c, fun d => absurd ((aw.mp d).2.resolve_left (by omega)) c⟩) (fun c => mTo.ret ⟨Or.inr rfl, fun _ => aw.mpr ⟨y, Or.inr c⟩, fun _ => n1⟩))
      · have := ih1 j 0 g 0 0 V (by omega) z (Nat.zero_le _) a1 a2 a3 hw rfl (fun u hu => by
          rw [h34 u hu]
          by_cases c : u < j
          · rw [if_pos c, if_pos c]
          · rw [if_neg c, if_neg c]
            split <;> rfl)
        exact this
    · have gb := ws_b g4 j g (by omega) hw
      obtain ⟨mb, gib⟩ := wn_b g4 (show j < 7 by omega) i m gi (by omega) hwn
      have wj : V.rI 34 j = nI m := by
        rw [h34 j (by omega), if_neg (by omega), if_pos rfl]
      rw [mX2_areWaysOf_go, if_neg (by decide), if_pos rfl]
      unfold mX2_areWaysOf_b1
      refine mTo.le a1 rfl (by omega) (by omega) (fun z => mTo.lt ?_) (fun z => mTo.ix rfl (by omega) (by omega) ?_)
      · have ein : i = n := by omega
        have e7 : wnF nb j 7 = some (m, gi) := by
          have := wn_ext (nb := nb) (u := j) (k := i) (fun v hv hv7 => by
            cases c : (nb j).testBit v with
            | false => rfl
            | true =>
              have := bit_n hg (by omega) hv7 c
              omega) (7 - i) (by omega)
          rw [show i + (7 - i) = 7 by omega] at this
          rw [this, hwn]
        rw [nI_1]
        refine ih0 (j + 1) (g + gi) V (by omega) (by omega) a1 a2 a3 ?_ (fun u hu => ?_)
        · rw [wsF, hw]
          dsimp only
          rw [e7]
        · rw [h34 u hu]
          by_cases c : u < j
          · rw [if_pos c, if_pos (by omega)]
          · rw [if_neg c]
            by_cases d : u = j
            · rw [if_pos d, if_pos (by omega), d]
              unfold wyN
              rw [e7]
            · rw [if_neg d, if_neg (by omega)]
      · have lt := g4 j
        rw [nI_clamp (n := j) (by omega), a3 j (by omega)]
        refine mTo.so (T_pop (by omega)) ?_
        rw [pop_deg rfl lt]
        have dl := degN_le (nb := nb) (u := j)
        have st : wnF nb j (i + 1) = (if 2 < degN nb j ∧ (nb j).testBit i = true then (if (fwN nb 21 j i 1).1 = j ∨ m.testBit (fwN nb 21 j i 1).1 = true then none else some (m ||| 2 ^ (fwN nb 21 j i 1).1, gi + (fwN nb 21 j i 1).2)) else some (m, gi)) := by
          rw [wnF, hwn]
        have skip : ¬ (2 < degN nb j ∧ (nb j).testBit i = true) → mTo (mX2_areWaysOf_go F k 1 (nI kd) (nI (g + gi)) (nI j) (nI i + 1) V) (fun r => (r.1 = 0 ∨ r.1 = 1) ∧ (r.1 ≠ 0 ↔ awB nb kd = true)) := fun c => by
          rw [if_neg c] at st
          rw [nI_1]
          exact ih1 j (i + 1) g m gi V (by omega) h2 (by omega) a1 a2 a3 hw st h34
        refine mTo.le (b := 2) rfl rfl (by omega) (by omega) (fun y => mTo.lt (skip (fun c => by omega))) (fun y => mTo.ic rfl (by omega) (by omega) ?_)
        refine mTo.hs (S := nb j) (j := i) rfl rfl (by omega) (by omega) (fun x => mTo.lt (skip (fun c => by rw [x] at c; exact absurd c.2 (by decide)))) (fun x => ?_)
        rw [if_pos ⟨y, x⟩] at st
        refine mTo.W (T_followWay (v := i) hF hg a3 (show j < 7 by omega) (by omega) wj mb) (fun v28 V2 e2 q => ?_)
        obtain ⟨f1, f2, f3⟩ := fwN_b g4 21 j i 1 (show i < 7 by omega) (show j < 7 by omega)
        by_cases c : (fwN nb 21 j i 1).1 = j ∨ m.testBit (fwN nb 21 j i 1).1 = true
        · rw [if_pos c] at q st
          have q1 : v28 = 0 := (Prod.mk.inj q).1
          rw [q1, if_pos rfl]
          refine mTo.ret ⟨Or.inl rfl, fun c => absurd rfl c, fun d => ?_⟩
          have w7 := wn_none st (7 - (i + 1))
          rw [show i + 1 + (7 - (i + 1)) = 7 by omega] at w7
          have ws : wsF nb (j + 1) = none := by
            rw [wsF, hw]
            dsimp only
            rw [w7]
          have w7 := ws_none ws (7 - (j + 1))
          rw [show j + 1 + (7 - (j + 1)) = 7 by omega] at w7
          unfold awB at d
          rw [w7] at d
          cases d
        · rw [if_neg c] at q st
          obtain ⟨q1, q2⟩ := Prod.mk.inj q
          subst q1
          refine mTo.eqI (b := 0) rfl rfl (by omega) (by omega) (fun y => by omega) (fun y => mTo.lt (mTo.lt ?_))
          rw [nI_add, nI_1, Nat.add_assoc]
          refine ih1 j (i + 1) g _ _ V2 (by omega) h2 (by omega) ?_ ?_ (fun u hu => ?_) hw st (fun u hu => ?_)
          · rw [q2]; exact a1
          · rw [q2]; exact a2
          · rw [q2, mI_no (by decide)]; exact a3 u hu
          · rw [q2, mI_at (nI_clamp (n := j) (by omega))]
            by_cases d : u = j
            · rw [if_pos d, if_neg (by omega), if_pos d]
            · rw [if_neg d, h34 u hu, if_neg d, if_neg d]
theorem T_areWaysOf {F n kd : Nat} {nb : Nat → Nat} {V : mV} (hF : 2 ^ 21 ≤ F) (hg : gph nb n) (hE : edS V nb n) (hk : kd = 5 ∨ kd = 3) : mTo (mX2_areWaysOf F (nI kd) V) (fun r => (r.1 = 0 ∨ r.1 = 1) ∧ (r.1 ≠ 0 ↔ awB nb kd = true)) := by
  obtain ⟨a1, a2, a3, a4, a5, a6⟩ := hE
  have g1 := hg.1
  unfold mX2_areWaysOf mX2_areWaysOf_s
  refine mTo.W (T_fill (F := F) (a := 34) (N := 7) hF rfl (by omega)) (fun v2 V2 _ q => ?_)
  obtain ⟨q3, q4⟩ := q
  have q3 : ∀ i, i < 7 → V2.rI 34 i = 0 := q3
  have q4 : mAv (wJ7_fill_53178 34) V V2 := q4
  have r27 : V2.rI 27 = V.rI 27 := (q4.1 27 (by unfold wJ7_fill_53178; decide)).2.2.1
  have f3 : V2.fI 3 = V.fI 3 := (q4.1 3 (by unfold wJ7_fill_53178; decide)).1
  exact (T_aW_go (by omega) hg hk F).1 0 0 V2 (by omega) (Nat.zero_le _) (by rw [f3, a1]) (by rw [f3, a2]) (fun u hu => by rw [r27, a3 u hu]) rfl (fun u hu => by rw [q3 u hu, if_neg (Nat.not_lt_zero u)])
theorem jc_eq {nb : Nat → Nat} {kd : Nat} : jcB nb kd = (Nat.beq (cbP nb 0) (cbP nb 1) && brB nb kd && awB nb kd) := by
  unfold jcB awB
  cases wsF nb 7 <;> rfl
/-- the items of a row, behind its first number -/
def rwTl (xs : List Int32) (v : Nat) : Bool := (List.range xs.length).any fun i => decide (1 ≤ i) && decide (xs.getD i 0 = nI v)
theorem rwT_t {xs : List Int32} {v : Nat} : rwTl xs v = true ↔ ∃ i, 1 ≤ i ∧ i < xs.length ∧ xs.getD i 0 = nI v := by
  unfold rwTl
  rw [List.any_eq_true]
  constructor
  · rintro ⟨i, h1, h2⟩
    rw [Bool.and_eq_true, decide_eq_true_iff, decide_eq_true_iff] at h2
    exact ⟨i, h2.1, List.mem_range.mp h1, h2.2⟩
  · rintro ⟨i, h1, h2, h3⟩
    exact ⟨i, List.mem_range.mpr h2, by rw [Bool.and_eq_true, decide_eq_true_iff, decide_eq_true_iff]; exact ⟨h1, h3⟩⟩
/-- what the judge of cores asks -/
def coreOK (m b : Nat) (A B : Nat → Nat) (xs : List Int32) : Prop := xs.length ≠ 0 ∧ (∃ kd, (kd = 5 ∨ kd = 3) ∧ xs.getD 0 0 = nI kd ∧ jcB (nearN (rwTl xs) A B m) kd = true) ∧ (∀ i, 1 ≤ i → i < xs.length → ∃ v, v < min m b ∧ xs.getD i 0 = nI v) ∧ ∀ i, 1 ≤ i → i + 1 < xs.length → xs.getD i 0 < xs.getD (i + 1) 0
end
