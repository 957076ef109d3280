/-! THE PURE PART, pairings: the solver, the whole; the kept row is accepted in both senses. -/
section
theorem T_writePairing_go {F r s : Nat} {nr : Nat → Nat} (hF : 64 ≤ F) (hk : mK r = 9) (hr : 256 ≤ r) (hs : s ≤ 9) (hsym : ∀ u w, (nr u).testBit w = true → (nr w).testBit u = true) : ∀ k', (∀ j Ln (V : mV), (s - j) + s + 3 ≤ k' → j ≤ s → (∀ i, i < 9 → V.rI 19 i = nI (nr i)) → (∀ x, x < 2 ^ s → V.rI 20 x = nI (nu nr s x)) → rowIs Ln V r (idl j) → mTo (mX7_writePairing_go F k' 0 Ln (nI s) r (nI j) 0 V) (fun p => rowIs p.2.1 p.2.2 r (wpG nr s s).2)) ∧ (∀ j Ln (V : mV), (s - j) + 1 ≤ k' → j ≤ s → (∀ i, i < 9 → V.rI 19 i = nI (nr i)) → (∀ x, x < 2 ^ s → V.rI 20 x = nI (nu nr s x)) → rowIs Ln V r (wpG nr s j).2 → mTo (mX7_writePairing_go F k' 1 Ln (nI s) r (nI (wpG nr s j).1) (nI j) V) (fun p => rowIs p.2.1 p.2.2 r (wpG nr s s).2)) := by
  have s9 := nb_2s hs
  intro k'
  induction k' with
  | zero => exact ⟨fun j Ln V h => by omega, fun j Ln V h => by omega⟩
  | succ k ih =>
    obtain ⟨ih0, ih1⟩ := ih
    refine ⟨fun j Ln V h1 h2 hn hnu hR => ?_, fun j Ln V h1 h2 hn hnu hR => ?_⟩
    · rw [mX7_writePairing_go, if_pos rfl]
      unfold mX7_writePairing_b0
      refine mTo.le rfl rfl (by omega) (by omega) (fun h => mTo.lt ?_) (fun h => ?_)
      · have : j = s := by omega
        subst this
        rw [nb_full (by omega)]
        exact ih1 0 Ln V (by omega) (by omega) hn hnu hR
      · refine mTo.A (T_radd hk hR (by rw [idl_len]; omega)) (fun a L1 V1 _ q => mTo.lt ?_)
        obtain ⟨q1, q2, _⟩ := q
        have q2 : mAv (wX9_add r) V V1 := q2
        rw [nI_1]
        exact ih0 (j + 1) L1 V1 (by omega) (by omega) (fun i hi => by rw [(q2.1 19 (by unfold wX9_add; omega)).2.2.1]; exact hn i hi) (fun x hx => by rw [(q2.1 20 (by unfold wX9_add; omega)).2.2.1]; exact hnu x hx) q1
    · rw [mX7_writePairing_go, if_neg (by decide), if_pos rfl]
      unfold mX7_writePairing_b1
      refine mTo.le rfl rfl (by omega) (by omega) (fun h => mTo.ret ?_) (fun h => ?_)
      · have : j = s := by omega
        subst this
        exact hR
      · obtain ⟨i1, i2, i3, i4, i5, i6, i7, i8⟩ := wp_inv hs hsym j h2
        have g := ih1 (j + 1)
        rw [wpG] at g
        refine mTo.hs rfl rfl (by omega) (by omega) (fun hb => mTo.lt ?_) (fun hb => ?_)
        · rw [if_neg (by rw [hb]; decide)] at g
          rw [nI_1]
          exact g Ln V (by omega) (by omega) hn hnu hR
        · rw [if_pos hb] at g
          generalize (wpG nr s j).1 = L at *
          generalize (wpG nr s j).2 = xs at *
          have h0 : L ≠ 0 := fun z => by rw [z, Nat.zero_testBit] at hb; exact absurd hb (by decide)
          have el : low L = j := low_un (by omega) hb (fun l hl => by
            cases z : L.testBit l with
            | false => rfl
            | true =>
              have := i2 l z
              omega)
          have ok := ptn_ok (nr := nr) hs i1 h0
          rw [el] at ok
          have ws : ptn nr (nu nr s) j L s < s := by
            rcases ok with ⟨w1, _⟩ | ⟨w, w1, _, w2, _⟩
            · omega
            · omega
          refine mTo.N (T_partnerOf (nr := nr) hF hs h i1 hn hnu) (fun w _ hw => ?_)
          subst hw
          generalize ptn nr (nu nr s) j L s = w at *
          refine mTo.W (T_rset (v := nI w) hR (by omega)) (fun a V1 _ q => mTo.W (T_rset (v := nI j) q.1 (by rw [List.length_set]; omega)) (fun a V2 _ q' => mTo.lt (mTo.lt ?_)))
          have q2 : mAv (wX9_set r) V V1 := q.2
          have q3 : mAv (wX9_set r) V1 V2 := q'.2
          have lt3 := nb_or_lt (nb_p2 (show j < 9 by omega)) (nb_p2 (show w < 9 by omega))
          rw [nI_1, nb_one (by omega), nb_one (by omega), nb_or, nb_not (by omega)]
          exact g Ln V2 (by omega) (by omega) (fun i hi => by rw [(q3.1 19 (by unfold wX9_set; omega)).2.2.1, (q2.1 19 (by unfold wX9_set; omega)).2.2.1]; exact hn i hi) (fun x hx => by rw [(q3.1 20 (by unfold wX9_set; omega)).2.2.1, (q2.1 20 (by unfold wX9_set; omega)).2.2.1]; exact hnu x hx) q'.1
def cbN (nr : Nat → Nat) (s v : Nat) : Bool := decide (nu nr s (nsd (2 ^ s - 1) (2 ^ v)) = nu nr s (2 ^ s - 1))
def isA (nr : Nat → Nat) (s v : Nat) : Bool := !cbN nr s v && decide (0 < cnt (fun o => (nr v).testBit o && cbN nr s o) s)
def wnL (nr : Nat → Nat) (s : Nat) : Nat → List Int32
  | 0 => []
  | j + 1 => if isA nr s j = true then wnL nr s j ++ [nI j] else wnL nr s j
theorem T_canBeAlone {F s v : Nat} {nr : Nat → Nat} {V : mV} (hs : s ≤ 9) (hv : v < s) (hnu : ∀ x, x < 2 ^ s → V.rI 20 x = nI (nu nr s x)) : mTo (mX7_canBeAlone F (nI s) (nI v) V) (fun w => (w = 0 ∨ w = 1) ∧ (w ≠ 0 ↔ cbN nr s v = true)) := by
  have s9 := nb_2s hs
  have p2 := Nat.two_pow_pos s
  have l1 := nsd_le (2 ^ s - 1) (2 ^ v)
  have c1 := nu_bd (nr := nr) (s := s) (2 ^ 20) (nsd (2 ^ s - 1) (2 ^ v)) (by omega) (by omega)
  have c2 := nu_bd (nr := nr) (s := s) (2 ^ 20) (2 ^ s - 1) (by omega) (by omega)
  unfold mX7_canBeAlone
  refine mTo.lt ?_
  rw [nb_full (by omega), nb_one (by omega), nb_not (by omega)]
  refine mTo.ix rfl (by omega) (by omega) (mTo.ix rfl (by omega) (by omega) (mTo.eqI (by rw [nI_clamp (by omega), hnu _ (by omega)]) (by rw [nI_clamp (by omega), hnu _ (by omega)]) (by omega) (by omega) (fun h => mTo.ret ⟨Or.inr rfl, fun _ => decide_eq_true h, fun _ => by decide⟩) (fun h => mTo.ret ⟨Or.inl rfl, fun z => absurd rfl z, fun z => absurd (of_decide_eq_true z) h⟩)))
theorem T_letterOf_go {F s v : Nat} {nr : Nat → Nat} {V : mV} (hs : s ≤ 9) (hv : v < s) (hnb : ∀ i, nr i < 2 ^ 9) (hn : ∀ i, i < 9 → V.rI 19 i = nI (nr i)) (hnu : ∀ x, x < 2 ^ s → V.rI 20 x = nI (nu nr s x)) (hc : cbN nr s v = false) : ∀ k' j, s < j + k' → j ≤ s → cnt (fun o => (nr v).testBit o && cbN nr s o) j = 0 → mTo (mX7_letterOf_go F k' 0 (nI s) (nI v) (nI j) V) (fun w => w = (97 : Int32) ↔ isA nr s v = true) := by
  intro k'
  induction k' with
  | zero => intro j h1 h2; omega
  | succ k ih =>
    intro j h1 h2 h3
    rw [mX7_letterOf_go, if_pos rfl]
    unfold mX7_letterOf_b0
    refine mTo.le rfl rfl (by omega) (by omega) (fun h => ?_) (fun h => mTo.ix rfl (by omega) (by omega) ?_)
    · have : j = s := by omega
      subst this
      rw [if_neg (by decide)]
      refine mTo.ret ⟨fun z => absurd (show (99 : Int32) = 97 from z) (by decide), fun z => ?_⟩
      unfold isA at z
      rw [h3, Bool.and_eq_true, decide_eq_true_eq] at z
      exact absurd z.2 (Nat.lt_irrefl _)
    · have hb0 := hnb v
      have step : ((nr v).testBit j && cbN nr s j) = false → cnt (fun o => (nr v).testBit o && cbN nr s o) (j + 1) = 0 := fun z => by
        rw [cnt, h3, if_neg (by rw [z]; decide)]
      refine mTo.hs (by rw [nI_clamp (by omega), hn v (by omega)]) rfl (by omega) (by omega) (fun hb => mTo.lt ?_) (fun hb => ?_)
      · rw [nI_1]
        exact ih (j + 1) (by omega) (by omega) (step (by rw [hb, Bool.false_and]))
      · refine mTo.N (T_canBeAlone (nr := nr) hs h hnu) (fun w _ q => mTo.tf q (fun z => mTo.lt ?_) (fun z => ?_))
        · rw [nI_1]
          exact ih (j + 1) (by omega) (by omega) (step (by rw [Bool.eq_false_iff.mpr z, Bool.and_false]))
        · rw [if_neg (by decide)]
          refine mTo.ret ⟨fun _ => ?_, fun _ => rfl⟩
          unfold isA
          rw [hc, decide_eq_true (cnt_pos (X := fun o => (nr v).testBit o && cbN nr s o) (i := j) (by show ((nr v).testBit j && cbN nr s j) = true; rw [hb, z]; rfl) h)]
          rfl
theorem T_letterOf {F s v : Nat} {nr : Nat → Nat} {V : mV} (hF : 64 ≤ F) (hs : s ≤ 9) (hv : v < s) (hnb : ∀ i, nr i < 2 ^ 9) (hn : ∀ i, i < 9 → V.rI 19 i = nI (nr i)) (hnu : ∀ x, x < 2 ^ s → V.rI 20 x = nI (nu nr s x)) : mTo (mX7_letterOf F (nI s) (nI v) V) (fun w => w = (97 : Int32) ↔ isA nr s v = true) := by
  unfold mX7_letterOf mX7_letterOf_s
  refine mTo.N (T_canBeAlone (nr := nr) hs hv hnu) (fun w _ q => mTo.tf q (fun z => ?_) (fun z => ?_))
  · exact T_letterOf_go hs hv hnb hn hnu (Bool.eq_false_iff.mpr z) F 0 (by omega) (by omega) rfl
  · rw [if_neg (by decide)]
    refine mTo.ret ⟨fun y => absurd (show (100 : Int32) = 97 from y) (by decide), fun y => ?_⟩
    unfold isA at y
    rw [z, Bool.not_true, Bool.false_and] at y
    exact absurd y (by decide)
theorem wnL_in {nr : Nat → Nat} {s : Nat} : ∀ j, (∀ i, i < (wnL nr s j).length → ∃ v, v < j ∧ isA nr s v = true ∧ (wnL nr s j).getD i 0 = nI v) ∧ (∀ v, v < j → isA nr s v = true → ∃ i, i < (wnL nr s j).length ∧ (wnL nr s j).getD i 0 = nI v) ∧ (wnL nr s j).length ≤ j
  | 0 => ⟨fun i h => absurd h (Nat.not_lt_zero _), fun v h => absurd h (Nat.not_lt_zero _), Nat.le_refl _⟩
  | j + 1 => by
    obtain ⟨a, b, c⟩ := wnL_in (nr := nr) (s := s) j
    rw [wnL]
    by_cases e : isA nr s j = true
    · rw [if_pos e]
      refine ⟨fun i hi => ?_, fun v hv hA => ?_, ?_⟩
      · rw [List.length_append] at hi
        have hi : i < (wnL nr s j).length + 1 := hi
        rw [getD_snoc]
        by_cases z : i < (wnL nr s j).length
        · rw [if_pos z]
          obtain ⟨v, v1, v2⟩ := a i z
          exact ⟨v, by omega, v2⟩
        · rw [if_neg z, if_pos (by omega)]
          exact ⟨j, by omega, e, rfl⟩
      · rw [List.length_append]
        by_cases z : v = j
        · refine ⟨(wnL nr s j).length, Nat.lt_succ_self _, ?_⟩
          rw [getD_snoc, if_neg (Nat.lt_irrefl _), if_pos rfl, z]
        · obtain ⟨i, i1, i2⟩ := b v (by omega) hA
          refine ⟨i, Nat.lt_succ_of_lt i1, ?_⟩
          rw [getD_snoc, if_pos i1, i2]
      · rw [List.length_append]
        show _ + 1 ≤ _
        omega
    · rw [if_neg e]
      refine ⟨fun i hi => ?_, fun v hv hA => ?_, by omega⟩
      · obtain ⟨v, v1, v2⟩ := a i hi
        exact ⟨v, by omega, v2⟩
      · by_cases z : v = j
        · rw [z] at hA
          exact absurd hA e
        · exact b v (by omega) hA
theorem wnL_rise {nr : Nat → Nat} {s : Nat} (hs : s < 2 ^ 20) : ∀ j, j ≤ s → ∀ i, i + 1 < (wnL nr s j).length → (wnL nr s j).getD i 0 < (wnL nr s j).getD (i + 1) 0
  | 0, _, i, h => absurd h (Nat.not_lt_zero _)
  | j + 1, hj, i, h => by
    have ih := wnL_rise (nr := nr) (s := s) hs j (by omega)
    obtain ⟨a, _⟩ := wnL_in (nr := nr) (s := s) j
    rw [wnL] at h ⊢
    by_cases e : isA nr s j = true
    · rw [if_pos e] at h ⊢
      rw [List.length_append] at h
      have h : i + 1 < (wnL nr s j).length + 1 := h
      rw [getD_snoc, getD_snoc, if_pos (show i < (wnL nr s j).length by omega)]
      by_cases z : i + 1 < (wnL nr s j).length
      · rw [if_pos z]
        exact ih i z
      · rw [if_neg z, if_pos (by omega)]
        obtain ⟨v, v1, _, v2⟩ := a i (by omega)
        rw [v2]
        exact (nI_ltI (by omega) (by omega)).mpr v1
    · rw [if_neg e] at h ⊢
      exact ih i h
theorem T_writeNodes_go {F r s : Nat} {nr : Nat → Nat} (hF : 64 ≤ F) (hk : mK r = 9) (hr : 256 ≤ r) (hs : s ≤ 9) (hnb : ∀ i, nr i < 2 ^ 9) : ∀ k' j Ln (V : mV), s < j + k' → j ≤ s → (∀ i, i < 9 → V.rI 19 i = nI (nr i)) → (∀ x, x < 2 ^ s → V.rI 20 x = nI (nu nr s x)) → rowIs Ln V r (wnL nr s j) → mTo (mX7_writeNodes_go F k' 0 Ln (nI s) r (nI j) V) (fun p => rowIs p.2.1 p.2.2 r (wnL nr s s)) := by
  intro k'
  induction k' with
  | zero => intro j Ln V h1 h2; omega
  | succ k ih =>
    intro j Ln V h1 h2 hn hnu hR
    rw [mX7_writeNodes_go, if_pos rfl]
    unfold mX7_writeNodes_b0
    refine mTo.le rfl rfl (by omega) (by omega) (fun h => mTo.ret ?_) (fun h => mTo.N (T_letterOf (nr := nr) hF hs h hnb hn hnu) (fun w _ q => mTo.ite (fun e => ?_) (fun e => mTo.lt ?_)))
    · have : j = s := by omega
      subst this
      exact hR
    · have g := ih (j + 1)
      rw [wnL, if_pos (q.mp e)] at g
      have := (wnL_in (nr := nr) (s := s) j).2.2
      refine mTo.A (T_radd hk hR (by omega)) (fun a L1 V1 _ q => mTo.lt ?_)
      obtain ⟨q1, q2, _⟩ := q
      have q2 : mAv (wX9_add r) V V1 := q2
      rw [nI_1]
      exact g L1 V1 (by omega) (by omega) (fun i hi => by rw [(q2.1 19 (by unfold wX9_add; omega)).2.2.1]; exact hn i hi) (fun x hx => by rw [(q2.1 20 (by unfold wX9_add; omega)).2.2.1]; exact hnu x hx) q1
    · have g := ih (j + 1)
      rw [wnL, if_neg (fun z => e (q.mpr z))] at g
      rw [nI_1]
      exact g Ln V (by omega) (by omega) hn hnu hR
/-- the kept row of pairings -/
def rowM (nr : Nat → Nat) (s b : Nat) : List Int32 := if s - 2 * nu nr s (2 ^ s - 1) ≤ b then (wpG nr s s).2 else wnL nr s s
theorem nrA_sym {m : Nat} {A B : Nat → Nat} : ∀ u w, (nrA m A B u).testBit w = true → (nrA m A B w).testBit u = true := fun u w h => by
  unfold nrA at h ⊢
  rw [nearN_sym]
  exact h
theorem nu_half {nr : Nat → Nat} {s : Nat} (hs : s ≤ 9) (hsym : ∀ u w, (nr u).testBit w = true → (nr w).testBit u = true) : 2 * nu nr s (2 ^ s - 1) ≤ s := by
  have s9 := nb_2s hs
  have p2 := Nat.two_pow_pos s
  obtain ⟨p, _, e⟩ := nu_ex hs hsym (2 ^ 20) (2 ^ s - 1) (by omega) (by omega)
  have := cnt_n (X := fun i => (2 ^ s - 1).testBit i) s
  omega
theorem T_solvePairings {F e s m b : Nat} {Ln : Nat → Nat} {A B : Nat → Nat} {d : Nat → Int32} {V : mV} (hF : 2 ^ 22 ≤ F) (he : 256 ≤ e) (he2 : e < 1024) (hk : mK (e + 2) = 9) (hs : s ≤ 9) (h0 : 0 < s) (h16 : m ≤ 16) (hb : b < 2 ^ 20) (hq : enQ V e s m (nI b) d) (hr : rowIs Ln V (e + 2) []) (hd : ∀ i, i < m → d (5 * i) = nI (A i) ∧ d (5 * i + 1) = nI (B i) ∧ A i < s ∧ B i < s) : mTo (mX7_solvePairings F Ln e V) (fun p => p.2.2.fI e 11 = (if s - 2 * nu (nrA m A B) s (2 ^ s - 1) ≤ b then (121 : Int32) else 110) ∧ p.2.2.fI e 12 = nI (s - 2 * nu (nrA m A B) s (2 ^ s - 1)) ∧ rowIs p.2.1 p.2.2 (e + 2) (rowM (nrA m A B) s b)) := by
  have s9 := nb_2s hs
  have p2 := Nat.two_pow_pos s
  have hh := nu_half (nr := nrA m A B) hs nrA_sym
  unfold mX7_solvePairings
  refine mTo.W (T_countPairs hF he hs h0 h16 hq hd) (fun a V1 _ q => ?_)
  obtain ⟨q1, q2, q3⟩ := q
  have q1 : ∀ i, i < 9 → V1.rI 19 i = nI (nrA m A B i) := q1
  have q2 : ∀ x, x < 2 ^ s → V1.rI 20 x = nI (nu (nrA m A B) s x) := q2
  have hq1 := hq.mv q3 (by unfold wX7_countPairs; omega) (by unfold wX7_countPairs; omega)
  have hr1 := hr.mv q3 (by unfold wX7_countPairs; omega) (by unfold wX7_countPairs; omega)
  refine mTo.lt ?_
  have e1 : V1.fI e 1 = nI s := hq1.1
  have e8 : V1.fI e 8 = nI b := hq1.2.2.1
  rw [e1, nb_full (by omega)]
  refine mTo.ix rfl (by omega) (by omega) (mTo.lt ?_)
  rw [nI_clamp (by omega), q2 _ (by omega), show (2 : Int32) = nI 2 from rfl, nI_mulC, pk_sub (by omega)]
  have tell : ∀ (x : Int32), mTo (mX3_tell F e x (nI (s - 2 * nu (nrA m A B) s (2 ^ s - 1))) V1) (fun p => p.2.fI e 11 = (if x = 0 then (110 : Int32) else 121) ∧ p.2.fI e 12 = nI (s - 2 * nu (nrA m A B) s (2 ^ s - 1)) ∧ p.2.fI e 1 = nI s ∧ p.2.rI = V1.rI ∧ ∀ i, i ≠ e → p.2.fI i = V1.fI i) := fun x => by
    unfold mX3_tell
    refine mTo.ite (fun h => ?_) (fun h => ?_)
    · rw [if_neg (by decide)]
      refine mTo.lt (mTo.lt (mTo.ret ⟨?_, mF_at, ?_, rfl, fun i hi => ?_⟩))
      · rw [mF_no (Or.inr (by decide)), mF_at, if_pos h]
      · rw [mF_no (Or.inr (by decide)), mF_no (Or.inr (by decide)), e1]
      · funext k
        rw [mF_no (Or.inl hi), mF_no (Or.inl hi)]
    · rw [if_neg (by decide)]
      refine mTo.lt (mTo.lt (mTo.ret ⟨?_, mF_at, ?_, rfl, fun i hi => ?_⟩))
      · rw [mF_no (Or.inr (by decide)), mF_at, if_neg h]
      · rw [mF_no (Or.inr (by decide)), mF_no (Or.inr (by decide)), e1]
      · funext k
        rw [mF_no (Or.inl hi), mF_no (Or.inl hi)]
  have rk : ∀ V2 : mV, V2.rI = V1.rI → (∀ i, i ≠ e → V2.fI i = V1.fI i) → rowIs Ln V2 (e + 2) [] := fun V2 f1 f2 => by
    obtain ⟨a1, a2, a3, a4⟩ := hr1
    exact ⟨by rw [f2 _ (by omega)]; exact a1, a2, a3, fun i hi => by rw [f1]; exact a4 i hi⟩
  refine mTo.ltI e8 rfl (by omega) (by omega) (fun h => ?_) (fun h => ?_)
  · refine mTo.W (tell 0) (fun a V2 _ q => ?_)
    obtain ⟨t1, t2, t3, t4, t5⟩ := q
    have t1 : V2.fI e 11 = (if (0 : Int32) = 0 then (110 : Int32) else 121) := t1
    have t2 : V2.fI e 12 = _ := t2
    have t3 : V2.fI e 1 = nI s := t3
    have t4 : V2.rI = V1.rI := t4
    rw [t3]
    obtain ⟨p, e2, r⟩ := T_writeNodes_go (F := F) (nr := nrA m A B) (by omega) hk (by omega) hs (fun i => nearN_lt (fun j hj => by have := hd j hj; omega)) F 0 Ln V2 (by omega) (by omega) (fun i hi => by rw [t4]; exact q1 i hi) (fun x hx => by rw [t4]; exact q2 x hx) (rk V2 t4 t5)
    have fr := (NX7_writeNodes (v := p.1) (Ln1 := p.2.1) (V1 := p.2.2) (show mX7_writeNodes F Ln (nI s) (e + 2) V2 = some p from e2)).1
    have fe : p.2.2.fI e = V2.fI e := (fr.1 e (by unfold wX7_writeNodes; omega)).1
    refine mTo.A (Q := fun p => rowIs p.2.1 p.2.2 (e + 2) (wnL (nrA m A B) s s)) ⟨p, e2, r⟩ (fun a L3 V3 h3 q => mTo.ret ?_)
    rw [show mX7_writeNodes F Ln (nI s) (e + 2) V2 = some p from e2] at h3
    cases h3
    refine ⟨?_, ?_, ?_⟩
    · rw [fe, t1, if_pos rfl, if_neg (by omega)]
    · rw [fe, t2]
    · unfold rowM
      rw [if_neg (by omega)]
      exact q
  · refine mTo.W (tell 1) (fun a V2 _ q => ?_)
    obtain ⟨t1, t2, t3, t4, t5⟩ := q
    have t1 : V2.fI e 11 = (if (1 : Int32) = 0 then (110 : Int32) else 121) := t1
    have t2 : V2.fI e 12 = _ := t2
    have t3 : V2.fI e 1 = nI s := t3
    have t4 : V2.rI = V1.rI := t4
    rw [t3]
    obtain ⟨p, e2, r⟩ := (T_writePairing_go (F := F) (nr := nrA m A B) (by omega) hk (by omega) hs nrA_sym F).1 0 Ln V2 (by omega) (by omega) (fun i hi => by rw [t4]; exact q1 i hi) (fun x hx => by rw [t4]; exact q2 x hx) (rk V2 t4 t5)
    have fr := (NX7_writePairing (v := p.1) (Ln1 := p.2.1) (V1 := p.2.2) (show mX7_writePairing F Ln (nI s) (e + 2) V2 = some p from e2)).1
    have fe : p.2.2.fI e = V2.fI e := (fr.1 e (by unfold wX7_writePairing; omega)).1
    refine mTo.A (Q := fun p => rowIs p.2.1 p.2.2 (e + 2) (wpG (nrA m A B) s s).2) ⟨p, e2, r⟩ (fun a L3 V3 h3 q => mTo.ret ?_)
    rw [show mX7_writePairing F Ln (nI s) (e + 2) V2 = some p from e2] at h3
    cases h3
    refine ⟨?_, ?_, ?_⟩
    · rw [fe, t1, if_neg (by decide), if_pos h]
    · rw [fe, t2]
    · unfold rowM
      rw [if_pos h]
      exact q
end
