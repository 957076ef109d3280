/-! THE PURE PART, drawings: the machine's search for rounds. -/
section
theorem i32_due {w d h q : Int32} : w = h - d + 2 * q ↔ w + d = h + 2 * q := by
  constructor
  · intro e
    rw [e]
    grind
  · intro e
    have : w = w + d - d := by grind
    rw [this, e]
    grind
theorem due_iff {nb t s : Nat → Nat} {n l : Nat} (hg : gph nb n) (hl : l < 7) (h : okR nb t s (l + 1)) : nI (wkN nb t s l) = dueI nb l ↔ wOK nb t s l := by
  obtain ⟨g1, g2, g3, g4, g5, g6⟩ := hg
  have num := wOK_num g2 g3 hl h
  have hev := al_cnt (nbL_s (l := l) g2) (nbL_l g3)
  have hc : cnt (gngb (nbL nb l)) 49 = sdN (nbL nb l) 7 := sdN_e (nb := nbL nb l) 7 (by decide)
  have c1 := cnt_n (X := gngb (nbL nb l)) 49
  have c2 : ptE (nbL nb l) ≤ 7 := cnt_n 7
  have c3 : ndE (nbL nb l) ≤ 7 := cnt_n 7
  have c4 : wkN nb t s l ≤ sdN nb (l + 1) := cnt_n _
  have c5 : sdN nb (l + 1) ≤ sdN nb 7 := sdN_mono 7 (by omega)
  have c6 : clG (plb nb t l) (orbN (bhP nb t s l)) (sdN nb (l + 1)) = wkN nb t s l := rfl
  rw [c6] at num
  rw [num]
  unfold dueI
  rw [i32_due, (nI_half (n := sdN (nbL nb l) 7) (by omega)).1, show (2 : Int32) = nI 2 from rfl, nI_mulC, nI_add, nI_add, nI_eq (by omega) (by omega)]
  omega
theorem edS.mv {V V1 : mV} {nb : Nat → Nat} {n : Nat} {w : Nat → Prop} (h : edS V nb n) (a : mAv w V V1) (h1 : ¬ w 3) (h2 : ¬ w 27) (h3 : ¬ w 29) (h4 : ¬ w 30) (h5 : ¬ w 33) : edS V1 nb n := by
  obtain ⟨q1, q2, q3, q4, q5, q6⟩ := h
  have f := (a.1 3 h1).1
  have r27 := (a.1 27 h2).2.2.1
  have r29 := (a.1 29 h3).2.2.1
  have r30 := (a.1 30 h4).2.2.1
  have r33 := (a.1 33 h5).2.2.1
  exact ⟨by rw [f, q1], by rw [f, q2], fun u hu => by rw [r27, q3 u hu], fun u hu => by rw [r29, q4 u hu], fun p hp => by rw [r30, q5 p hp], fun u hu => by rw [r33, q6 u hu]⟩
/-- rounds up to a place -/
def prS (nb t s : Nat → Nat) (p : Nat) : Prop := (∀ u q, u < 7 → q < p → plB nb u q → t q < 7 ∧ (nb u).testBit (t q) = true ∧ s (7 * u + t q) = q) ∧ ∀ u, u < 7 → 0 < degN nb u → sdN nb u < p → isLow nb u (t (sdN nb u))
def prV (V : mV) (nb t : Nat → Nat) (p : Nat) : Prop := (∀ q, q < p → V.rI 31 q = nI (t q)) ∧ (∀ u q, u < 7 → q < p → plB nb u q → V.rI 32 (7 * u + t q) = nI q) ∧ ∀ u, u < 7 → ∃ m, V.rI 28 u = nI m ∧ m < 128 ∧ ∀ v, m.testBit v = true ↔ ∃ q, q < p ∧ plB nb u q ∧ t q = v
def agP (p : Nat) (t t' : Nat → Nat) : Prop := ∀ q, q < p → t q = t' q
def lexL (P : Nat) (t t' : Nat → Nat) : Prop := ∀ i, i < P → (∀ j, j < i → t j = t' j) → t i ≤ t' i
def gdT (nb t s : Nat → Nat) : Prop := okR nb t s 7 ∧ (∀ u, u < 7 → 0 < degN nb u → isLow nb u (t (sdN nb u))) ∧ ∀ l, l < 7 → 0 < degN nb l → wOK nb t s l
def rsQ (nb t : Nat → Nat) (p : Nat) (r : Int32 × mV) : Prop := (r.1 = 1 ∧ ∃ t' s', agP p t t' ∧ gdT nb t' s' ∧ (∀ t'', goodT nb t'' → agP p t t'' → lexL (sdN nb 7) t' t'') ∧ prV r.2 nb t' (sdN nb 7)) ∨ (r.1 = 0 ∧ prV r.2 nb t p ∧ ∀ t'', goodT nb t'' → ¬ agP p t t'')
theorem prS_ok {nb t s : Nat → Nat} {p l : Nat} (hl : l < 7) (h : prS nb t s p) (hp : sdN nb (l + 1) ≤ p) : okR nb t s (l + 1) := fun u hu q hq => h.1 u q (by omega) (by have := pl_lt (show u ≤ l by omega) hq; omega) hq
theorem good_w {nb t t'' s : Nat → Nat} {p l : Nat} (hl : l < 7) (hd : 0 < degN nb l) (h : prS nb t s p) (hp : sdN nb (l + 1) ≤ p) (hg : goodT nb t'') (ha : agP p t t'') : wOK nb t s l := by
  obtain ⟨s'', g1, g2, g3⟩ := hg
  refine (wOK_c hl (prS_ok hl h hp) (fun u hu => g1 u (by omega)) (fun u hu q hq => ha q ?_)).mpr (g3 l hl hd)
  have := pl_lt hu hq
  omega
theorem T_setPlace {F p u o : Nat} {V : mV} (hp : p < 22) (hu : u < 7) (ho : o < 7) (hV : V.rI 30 p = nI u) : mX2_setPlace F (nI p) (nI o) V = some ((), mI (mI V 31 (nI p) (nI o)) 32 (nI (7 * u + o)) (nI p)) := by
  have main : mTo (mX2_setPlace F (nI p) (nI o) V) (fun r => r = ((), mI (mI V 31 (nI p) (nI o)) 32 (nI (7 * u + o)) (nI p))) := by
    unfold mX2_setPlace
    refine mTo.ix rfl hp (by omega) (mTo.lt (mTo.ix rfl hp (by omega) ?_))
    have e : (mI V 31 (nI p) (nI o)).rI 30 (nI p).toNatClampNeg = nI u := by rw [mI_no (by decide), nI_clamp (by omega), hV]
    rw [e, show (7 : Int32) = nI 7 from rfl, nI_mulC, nI_add, show u * 7 + o = 7 * u + o by omega]
    exact mTo.ix rfl (by omega) (by omega) (mTo.lt (mTo.ret rfl))
  obtain ⟨r, r1, r2⟩ := main
  rw [r1, r2]
/-- one place more -/
theorem pr_up {V V2 : mV} {nb t s : Nat → Nat} {n p u o m : Nat} (hg : gph nb n) (hu : u < 7) (ho : o < 7) (hpl : plB nb u p) (hS : prS nb t s p) (hV : prV V nb t p) (hb : (nb u).testBit o = true) (hm : V.rI 28 u = nI m) (m7 : m < 128) (hmb : ∀ v, m.testBit v = true ↔ ∃ q, q < p ∧ plB nb u q ∧ t q = v) (hmo : m.testBit o = false) (hlow : p = sdN nb u → ∀ o', o' < o → (nb u).testBit o' = false) (h31 : ∀ q, V2.rI 31 q = if q = p then nI o else V.rI 31 q) (h32 : ∀ x, V2.rI 32 x = if x = 7 * u + o then nI p else V.rI 32 x) (h28 : ∀ w, V2.rI 28 w = if w = u then nI (m ||| 2 ^ o) else V.rI 28 w) : prS nb (fun q => if q = p then o else t q) (fun x => if x = 7 * u + o then p else s x) (p + 1) ∧ prV V2 nb (fun q => if q = p then o else t q) (p + 1) ∧ agP p t (fun q => if q = p then o else t q) := by
  have ne : ∀ w q, w < 7 → q < p → plB nb w q → 7 * w + t q ≠ 7 * u + o := fun w q hw hq hpq e => by
    have t7 := (hS.1 w q hw hq hpq).1
    have ew : w = u := by omega
    have eo : t q = o := by omega
    rw [ew] at hpq
    have := (hmb o).mpr ⟨q, hq, hpq, eo⟩
    rw [hmo] at this
    exact absurd this (by decide)
  have own : ∀ w, w < 7 → plB nb w p → w = u := fun w hw h => by rw [← ow_pl hw h, ow_pl hu hpl]
  refine ⟨⟨fun w q hw hq hpq => ?_, fun w hw hd hq => ?_⟩, ⟨fun q hq => ?_, fun w q hw hq hpq => ?_, fun w hw => ?_⟩, fun q hq => ?_⟩
  · dsimp only
    by_cases c : q = p
    · subst c
      have ew := own w hw hpq
      subst ew
      rw [if_pos rfl, if_pos rfl]
      exact ⟨ho, hb, rfl⟩
    · rw [if_neg c, if_neg (ne w q hw (by omega) hpq)]
      exact hS.1 w q hw (by omega) hpq
  · dsimp only
    by_cases c : sdN nb w = p
    · have : plB nb w p := ⟨by omega, by show _ < sdN nb w + degN nb w; omega⟩
      have ew := own w hw this
      subst ew
      rw [if_pos c]
      exact ⟨ho, hb, hlow c.symm⟩
    · rw [if_neg c]
      exact hS.2 w hw hd (by omega)
  · dsimp only
    rw [h31]
    by_cases c : q = p
    · rw [if_pos c, if_pos c]
    · rw [if_neg c, if_neg c]
      exact hV.1 q (by omega)
  · dsimp only
    rw [h32]
    by_cases c : q = p
    · subst c
      have ew := own w hw hpq
      subst ew
      rw [if_pos rfl, if_pos rfl]
    · rw [if_neg c, if_neg (ne w q hw (by omega) hpq)]
      exact hV.2.1 w q hw (by omega) hpq
  · rw [h28]
    by_cases c : w = u
    · subst c
      refine ⟨m ||| 2 ^ o, if_pos rfl, nb_or_lt (n := 7) m7 (nb_p2 ho), fun v => ?_⟩
      rw [Nat.testBit_or, Bool.or_eq_true, nb_pow, decide_eq_true_iff, hmb]
      constructor
      · rintro (⟨q, a, b, c⟩ | e)
        · exact ⟨q, by omega, b, by show (if q = p then o else t q) = v; rw [if_neg (by omega)]; exact c⟩
        · exact ⟨p, by omega, hpl, by show (if p = p then o else t p) = v; rw [if_pos rfl]; exact e⟩
      · rintro ⟨q, a, b, c⟩
        have c : (if q = p then o else t q) = v := c
        by_cases d : q = p
        · rw [if_pos d] at c
          exact Or.inr c
        · rw [if_neg d] at c
          exact Or.inl ⟨q, by omega, b, c⟩
    · obtain ⟨m', e1, e2, e3⟩ := hV.2.2 w hw
      refine ⟨m', by rw [if_neg c]; exact e1, e2, fun v => ?_⟩
      rw [e3]
      constructor
      · rintro ⟨q, a, b, d⟩
        exact ⟨q, by omega, b, by show (if q = p then o else t q) = v; rw [if_neg (by omega)]; exact d⟩
      · rintro ⟨q, a, b, d⟩
        have d : (if q = p then o else t q) = v := d
        by_cases x : q = p
        · rw [x] at b
          exact absurd (own w hw b) c
        · rw [if_neg x] at d
          exact ⟨q, by omega, b, d⟩
  · dsimp only
    rw [if_neg (by omega)]
/-- one place less -/
theorem pr_dn {V V2 : mV} {nb t t1 : Nat → Nat} {p u o m1 : Nat} (hu : u < 7) (hpl : plB nb u p) (ht : agP p t t1) (to : t1 p = o) (ho : o < 7) (hV : prV V nb t1 (p + 1)) (hm : V.rI 28 u = nI m1) (m7 : m1 < 128) (hmb : ∀ v, m1.testBit v = true ↔ ∃ q, q < p + 1 ∧ plB nb u q ∧ t1 q = v) (hinj : ∀ q, q < p → plB nb u q → t q ≠ o) (h31 : V2.rI 31 = V.rI 31) (h32 : V2.rI 32 = V.rI 32) (h28 : ∀ w, V2.rI 28 w = if w = u then nI (nsd m1 (2 ^ o)) else V.rI 28 w) : prV V2 nb t p := by
  have own : ∀ w, w < 7 → plB nb w p → w = u := fun w hw h => by rw [← ow_pl hw h, ow_pl hu hpl]
  refine ⟨fun q hq => ?_, fun w q hw hq hpq => ?_, fun w hw => ?_⟩
  · rw [h31, hV.1 q (by omega), ← ht q hq]
  · rw [h32, ht q hq, hV.2.1 w q hw (by omega) hpq]
  · rw [h28]
    by_cases c : w = u
    · subst c
      refine ⟨nsd m1 (2 ^ o), if_pos rfl, nsd_lt (n := 7) m7, fun v => ?_⟩
      rw [nsd_bit, Bool.and_eq_true, Bool.not_eq_true', nb_pow, decide_eq_false_iff_not, hmb]
      constructor
      · rintro ⟨⟨q, a, b, c⟩, d⟩
        have : q ≠ p := fun e => d (by rw [← to, ← e]; exact c)
        exact ⟨q, by omega, b, by rw [ht q (by omega)]; exact c⟩
      · rintro ⟨q, a, b, c⟩
        exact ⟨⟨q, by omega, b, by rw [← ht q a]; exact c⟩, fun e => hinj q a b (by rw [c, e])⟩
    · obtain ⟨m', e1, e2, e3⟩ := hV.2.2 w hw
      refine ⟨m', by rw [if_neg c]; exact e1, e2, fun v => ?_⟩
      rw [e3]
      constructor
      · rintro ⟨q, a, b, d⟩
        by_cases x : q = p
        · rw [x] at b
          exact absurd (own w hw b) c
        · exact ⟨q, by omega, b, by rw [ht q (by omega)]; exact d⟩
      · rintro ⟨q, a, b, d⟩
        exact ⟨q, by omega, b, by rw [← ht q a]; exact d⟩
end
