/-! THE PURE PART, drawings: the machine counts the walks that are due. -/
section
/-- an edge set of at most n nodes and 11 edges -/
def gph (nb : Nat → Nat) (n : Nat) : Prop := n ≤ 7 ∧ symB nb ∧ (∀ u, u < 7 → (nb u).testBit u = false) ∧ (∀ u, nb u < 128) ∧ (∀ u, n ≤ u → nb u = 0) ∧ sdN nb 7 ≤ 22
theorem cnt_cut {X : Nat → Bool} {a n : Nat} (ha : a ≤ n) (h : ∀ i, a ≤ i → i < n → X i = false) : cnt X n = cnt X a := by
  obtain ⟨b, hb⟩ : ∃ b, n = a + b := ⟨n - a, by omega⟩
  subst hb
  rw [cnt_ad2, cnt_0 b (fun i hi => h (a + i) (by omega) (by omega)), Nat.add_zero]
theorem nbL_0 {nb : Nat → Nat} {l u : Nat} (h : l < u) : nbL nb l u = 0 := if_neg (by omega)
theorem degN_0 {nb : Nat → Nat} {u : Nat} (h : nb u = 0) : degN nb u = 0 := cnt_0 7 (fun i _ => by rw [h, Nat.zero_testBit])
theorem hasE_0 {nb : Nat → Nat} {u : Nat} (h : nb u = 0) : hasE nb u = false := by
  unfold hasE
  rw [degN_0 h]
  rfl
theorem sdN_cut {nb : Nat → Nat} {a : Nat} (h : ∀ u, a ≤ u → nb u = 0) : ∀ b, sdN nb (a + b) = sdN nb a
  | 0 => rfl
  | b + 1 => by
    show sdN nb (a + b) + degN nb (a + b) = _
    rw [sdN_cut h b, degN_0 (h _ (by omega)), Nat.add_zero]
theorem pop_deg {S : Nat} {nb : Nat → Nat} {u : Nat} (e : nb u = S) (h : S < 128) : pop S = degN nb u := by
  rw [pop_n (n := 7) (show S < 2 ^ 7 from h) (by decide)]
  unfold degN
  rw [e]
theorem degN_le {nb : Nat → Nat} {u : Nat} : degN nb u ≤ 7 := cnt_n 7
theorem hang_con {nb : Nat → Nat} {l j w : Nat} (hs : symB nb) (h7 : ∀ u, nb u < 128) (hl : l < 7) (hj : j ≤ l) : (hang nb 7 (2 ^ (l + 1) - 1) j).testBit w = true ↔ w ≤ l ∧ conE (nbL nb l) j w := by
  have hT : 2 ^ (l + 1) - 1 < 2 ^ 7 := by
    have : 2 ^ (l + 1) ≤ 2 ^ 7 := Nat.pow_le_pow_right (by decide) (by omega)
    omega
  have tb : ∀ w, (2 ^ (l + 1) - 1).testBit w = decide (w < l + 1) := fun w => Nat.testBit_two_pow_sub_one ..
  constructor
  · intro h
    refine hang_ind (P := fun w => w ≤ l ∧ conE (nbL nb l) j w) ⟨hj, con_eqv.1 _⟩ (fun u w hu _ hb ht => ?_) w h
    rw [tb, decide_eq_true_iff] at ht
    refine ⟨by omega, con_eqv.2.2 _ _ _ hu.2 (fun R _ hR => hR u w (by omega) (by omega) (nbL_t.mpr ⟨hb, hu.1, by omega⟩))⟩
  · rintro ⟨h1, h2⟩
    have := h2 (fun a b => (hang nb 7 (2 ^ (l + 1) - 1) j).testBit a = true ↔ (hang nb 7 (2 ^ (l + 1) - 1) j).testBit b = true) ⟨fun a => Iff.rfl, fun a b w => w.symm, fun a b c w1 w2 => w1.trans w2⟩ (fun a b ha hb hab => by
      obtain ⟨e1, e2, e3⟩ := nbL_t.mp hab
      constructor
      · intro w
        exact hang_step (by omega) hT w e1 (by rw [tb]; exact decide_eq_true (by omega))
      · intro w
        exact hang_step (by omega) hT w (by rw [← hs a b ha hb]; exact e1) (by rw [tb]; exact decide_eq_true (by omega)))
    exact this.mp hang_self
/-- what is due -/
noncomputable def dueI (nb : Nat → Nat) (l : Nat) : Int32 := nI (sdN (nbL nb l) 7) / 2 - nI (ndE (nbL nb l)) + 2 * nI (ptE (nbL nb l))
theorem T_cwd_go {F l : Nat} {nb : Nat → Nat} {V : mV} (hF : 2 ^ 10 ≤ F) (hl : l < 7) (hs : symB nb) (h7 : ∀ u, nb u < 128) (hnr : ∀ u, u < 7 → V.rI 27 u = nI (nb u)) : ∀ k' j L, 8 < j + k' → j ≤ l + 1 → L < 2 ^ 7 → (∀ w, L.testBit w = true ↔ w ≤ l ∧ ∀ u, u < j → hasE (nbL nb l) u = true → ¬ conE (nbL nb l) u w) → mTo (mX2_countWalksDue_go F k' 0 (nI l) (nI (2 ^ (l + 1) - 1)) (nI (sdN (nbL nb l) j)) (nI (cnt (hasE (nbL nb l)) j)) (nI (cnt (fstG (hasE (nbL nb l)) (conE (nbL nb l))) j)) (nI L) (nI j) V) (fun v => v = dueI nb l) := by
  have hT : 2 ^ (l + 1) - 1 < 2 ^ 7 := by
    have : 2 ^ (l + 1) ≤ 2 ^ 7 := Nat.pow_le_pow_right (by decide) (by omega)
    omega
  intro k'
  induction k' with
  | zero => intro j L h1 h2; omega
  | succ k ih =>
    intro j L h1 h2 h3 h4
    rw [mX2_countWalksDue_go, if_pos rfl]
    unfold mX2_countWalksDue_b0
    have c1 := cnt_n (X := hasE (nbL nb l)) j
    refine mTo.ltI rfl rfl (by omega) (by omega) (fun z => mTo.ret ?_) (fun z => mTo.ix rfl (by omega) (by omega) ?_)
    · have ej : j = l + 1 := by omega
      have e1 := sdN_cut (nb := nbL nb l) (a := j) (fun u hu => nbL_0 (by omega)) (7 - j)
      have e2 := cnt_cut (X := hasE (nbL nb l)) (a := j) (n := 7) (by omega) (fun i hi _ => hasE_0 (nbL_0 (by omega)))
      have e3 := cnt_cut (X := fstG (hasE (nbL nb l)) (conE (nbL nb l))) (a := j) (n := 7) (by omega) (fun i hi _ => by
        cases f : fstG (hasE (nbL nb l)) (conE (nbL nb l)) i with
        | false => rfl
        | true =>
          have := (fstG_t.mp f).1
          rw [hasE_0 (nbL_0 (by omega))] at this
          exact this.symm)
      rw [show j + (7 - j) = 7 by omega] at e1
      unfold dueI ndE ptE clG
      rw [e1, e2, e3]
    · have ed : nbL nb l j = nb j &&& (2 ^ (l + 1) - 1) := if_pos (by omega)
      have lt : nb j &&& (2 ^ (l + 1) - 1) < 128 := nb_and_lt (n := 7) (h7 j)
      have dl := degN_le (nb := nbL nb l) (u := j)
      rw [nI_clamp (n := j) (by omega), hnr j (by omega), nb_and]
      refine mTo.so (T_pop (by omega)) (mTo.lt ?_)
      rw [pop_deg ed lt, nI_add]
      have sn : sdN (nbL nb l) (j + 1) = sdN (nbL nb l) j + degN (nbL nb l) j := rfl
      have hn : ∀ X : Nat → Bool, cnt X (j + 1) = cnt X j + (if X j = true then 1 else 0) := fun X => rfl
      have ih := fun L => ih (j + 1) L (by omega) (by omega)
      rw [sn, hn, hn] at ih
      refine mTo.le (b := 0) rfl rfl (by omega) (by omega) (fun y => mTo.lt ?_) (fun y => mTo.lt ?_)
      · have he : hasE (nbL nb l) j = false := by
          unfold hasE
          rw [decide_eq_false (by omega)]
        have hf : fstG (hasE (nbL nb l)) (conE (nbL nb l)) j = false := by
          cases f : fstG (hasE (nbL nb l)) (conE (nbL nb l)) j with
          | false => rfl
          | true =>
            have := (fstG_t.mp f).1
            rw [he] at this
            exact this.symm
        rw [he, hf, if_neg (by decide), Nat.add_zero, Nat.add_zero] at ih
        rw [nI_1]
        refine ih L h3 (fun w => ?_)
        rw [h4]
        refine ⟨fun q => ⟨q.1, fun u hu hh => ?_⟩, fun q => ⟨q.1, fun u hu hh => q.2 u (by omega) hh⟩⟩
        by_cases c : u = j
        · rw [c, he] at hh
          exact absurd hh (by decide)
        · exact q.2 u (by omega) hh
      · have he : hasE (nbL nb l) j = true := decide_eq_true y
        rw [he, if_pos rfl] at ih
        have hf : fstG (hasE (nbL nb l)) (conE (nbL nb l)) j = true ↔ L.testBit j = true := by
          rw [fstG_t, h4]
          exact ⟨fun q => ⟨by omega, fun u hu hh => q.2 u hu hh⟩, fun q => ⟨he, fun u hu hh => q.2 u hu hh⟩⟩
        rw [nI_1]
        refine mTo.ite (fun x => mTo.lt ?_) (fun x => ?_)
        · have x := (nb_bit (by omega) (by omega)).mp x
          rw [if_neg (fun q => by rw [hf, x] at q; exact absurd q (by decide)), Nat.add_zero] at ih
          rw [nI_1]
          refine ih L h3 (fun w => ?_)
          rw [h4]
          refine ⟨fun q => ⟨q.1, fun u hu hh => ?_⟩, fun q => ⟨q.1, fun u hu hh => q.2 u (by omega) hh⟩⟩
          by_cases c : u = j
          · intro cw
            rw [c] at cw
            refine absurd (show L.testBit j = true from (h4 j).mpr ⟨by omega, fun u' hu' hh' cc => q.2 u' hu' hh' (con_eqv.2.2 _ _ _ cc cw)⟩) (by rw [x]; decide)
          · exact q.2 u (by omega) hh
        · have x : L.testBit j = true := by
            cases e : L.testBit j with
            | true => rfl
            | false => exact absurd ((nb_bit (by omega) (by omega)).mpr e) x
          rw [if_pos (hf.mpr x)] at ih
          refine mTo.N (T_hang (nr := nb) (N := 7) hF rfl (by omega) hT (by omega) hnr) (fun v _ hv => ?_)
          subst hv
          refine mTo.lt (mTo.lt (mTo.lt ?_))
          rw [nb_not (by omega), nI_1, nI_1]
          refine ih _ (nsd_lt h3) (fun w => ?_)
          rw [nsd_bit, Bool.and_eq_true, Bool.not_eq_true', h4]
          have hc := hang_con (w := w) hs h7 hl (show j ≤ l by omega)
          constructor
          · rintro ⟨q1, q2⟩
            refine ⟨q1.1, fun u hu hh cw => ?_⟩
            by_cases c : u = j
            · rw [c] at cw
              rw [hc.mpr ⟨q1.1, cw⟩] at q2
              exact absurd q2 (by decide)
            · exact q1.2 u (by omega) hh cw
          · rintro ⟨q1, q2⟩
            refine ⟨⟨q1, fun u hu hh => q2 u (by omega) hh⟩, ?_⟩
            cases e : (hang nb 7 (2 ^ (l + 1) - 1) j).testBit w with
            | false => rfl
            | true => exact absurd (hc.mp e).2 (q2 j (by omega) he)
theorem T_countWalksDue {F l : Nat} {nb : Nat → Nat} {V : mV} (hF : 2 ^ 10 ≤ F) (hl : l < 7) (hs : symB nb) (h7 : ∀ u, nb u < 128) (hnr : ∀ u, u < 7 → V.rI 27 u = nI (nb u)) : mTo (mX2_countWalksDue F (nI l) V) (fun v => v = dueI nb l) := by
  unfold mX2_countWalksDue mX2_countWalksDue_s
  have e : (2 : Int32) <<< (nI l &&& 31) = nI (2 ^ (l + 1)) := by
    have := nb_shl (a := 2) (j := l) (by omega) (by
      have : 2 ^ l ≤ 2 ^ 7 := Nat.pow_le_pow_right (by decide) (by omega)
      omega)
    rw [show (nI 2 : Int32) = 2 from rfl] at this
    rw [this, Nat.pow_succ, Nat.mul_comm]
  have e2 : nI (2 ^ (l + 1)) - 1 = nI (2 ^ (l + 1) - 1) := by
    obtain ⟨x, hx⟩ : ∃ x, 2 ^ (l + 1) = x + 1 := ⟨2 ^ (l + 1) - 1, by
      have := Nat.pow_pos (n := l + 1) (show 0 < 2 by decide)
      omega⟩
    rw [hx, Nat.add_sub_cancel, ← nI_1]
    grind
  refine mTo.lt ?_
  rw [e, e2]
  refine T_cwd_go hF hl hs h7 hnr F 0 _ (by omega) (Nat.zero_le _) ?_ (fun w => ?_)
  · have : 2 ^ (l + 1) ≤ 2 ^ 7 := Nat.pow_le_pow_right (by decide) (by omega)
    omega
  · rw [Nat.testBit_two_pow_sub_one, decide_eq_true_iff]
    exact ⟨fun h => ⟨by omega, fun u hu => by omega⟩, fun h => by omega⟩
end
