/-! REDUCTIONS: the draft; a pairing becomes a flow. -/
section
def exQ (q : qT) (x : Nat → Int32) : qT := qIt q (Qm q + 1) (addD q (Qm q) x)
abbrev wDk (i : Nat) : Prop := i = 18 ∨ i = 544 ∨ i = 545
theorem exQ_tr {q : qT} {b : Int32} {k : Nat} {x : Nat → Int32} (hx : ∀ c, c < 5 → x c = Qd q (5 * k + c)) : exQ (trQ q b k) x = trQ q b (k + 1) := trQ_up hx
theorem mI_n {V : mV} {a c i : Nat} {v : Int32} (hc : c < 2 ^ 31) : (mI V a (nI c) v).rI a i = if i = c then v else V.rI a i := mI_at (nI_clamp hc)
theorem T_addItem {F : Nat} {q : qT} {V : mV} {a b c : Int32} (hq : isQn V 544 q) (hm : Qm q ≤ 15) : mTo (mX3_addItem F 544 a b c V) (fun p => isQn p.2 544 (exQ q (five a b c 0 0)) ∧ mAv (fun i => i = 544 ∨ i = 545) V p.2) := by
  have main : mTo (mX3_addItem F 544 a b c V) (fun p => isQn p.2 544 (exQ q (five a b c 0 0))) := by
    obtain ⟨q0, q1, q2, q3, q4, q5, q6, q7, q8⟩ := hq
    unfold mX3_addItem
    rw [q6, show (5 : Int32) = nI 5 from rfl, nI_mulC, show (1 : Int32) = nI 1 from rfl, show (2 : Int32) = nI 2 from rfl, show (3 : Int32) = nI 3 from rfl, show (4 : Int32) = nI 4 from rfl]
    refine mTo.lt ?_
    rw [nI_add, nI_add, nI_add, nI_add, nI_add]
    refine (mTo.ltI (a := 80) rfl rfl (by decide) (by omega) (fun z => by omega) (fun _ => ?_))
    refine mTo.ix rfl (show Qm q * 5 < 80 by omega) (by decide) (mTo.lt (mTo.ix rfl (show Qm q * 5 + 1 < 80 by omega) (by decide) (mTo.lt (mTo.ix rfl (show Qm q * 5 + 2 < 80 by omega) (by decide) (mTo.lt (mTo.ix rfl (show Qm q * 5 + 3 < 80 by omega) (by decide) (mTo.lt (mTo.ix rfl (show Qm q * 5 + 4 < 80 by omega) (by decide) (mTo.lt (mTo.lt (mTo.ret ?_)))))))))))
    refine ⟨?_, ?_, ?_, ?_, ?_, ?_, ?_, fun j hj => ?_, fun j hj => ?_⟩
    · rw [mF_no (Or.inr (by decide))]; exact q0
    · rw [mF_no (Or.inr (by decide))]; exact q1
    · rw [mF_no (Or.inr (by decide))]; exact q2
    · rw [mF_no (Or.inr (by decide))]; exact q3
    · rw [mF_no (Or.inr (by decide))]; exact q4
    · rw [mF_no (Or.inr (by decide))]; exact q5
    · rw [mF_at]
      show V.fI 544 6 + nI 1 = nI (Qm q + 1)
      rw [q6, nI_add]
    · have hj : j < 5 * (Qm q + 1) := hj
      show (mI (mI (mI (mI (mI V 545 (nI (Qm q * 5)) a) 545 (nI (Qm q * 5 + 1)) b) 545 (nI (Qm q * 5 + 2)) c) 545 (nI (Qm q * 5 + 3)) 0) 545 (nI (Qm q * 5 + 4)) 0).rI 545 j = addD q (Qm q) (five a b c 0 0) j
      rw [mI_n (by omega), mI_n (by omega), mI_n (by omega), mI_n (by omega), mI_n (by omega)]
      unfold addD five
      by_cases e4 : j = Qm q * 5 + 4
      · rw [if_pos e4, if_pos (by omega), if_neg (by omega), if_neg (by omega), if_neg (by omega), if_neg (by omega)]
      rw [if_neg e4]
      by_cases e3 : j = Qm q * 5 + 3
      · rw [if_pos e3, if_pos (by omega), if_neg (by omega), if_neg (by omega), if_neg (by omega), if_pos (by omega)]
      rw [if_neg e3]
      by_cases e2 : j = Qm q * 5 + 2
      · rw [if_pos e2, if_pos (by omega), if_neg (by omega), if_neg (by omega), if_pos (by omega)]
      rw [if_neg e2]
      by_cases e1 : j = Qm q * 5 + 1
      · rw [if_pos e1, if_pos (by omega), if_neg (by omega), if_pos (by omega)]
      rw [if_neg e1]
      by_cases e0 : j = Qm q * 5
      · rw [if_pos e0, if_pos (by omega), if_pos (by omega)]
      rw [if_neg e0, if_neg (by omega)]
      exact q7 j (by omega)
    · have hj : 5 * (Qm q + 1) ≤ j := hj
      show addD q (Qm q) (five a b c 0 0) j = 0
      unfold addD
      rw [if_neg (by omega)]
      exact q8 j (by omega)
  obtain ⟨p, e, h⟩ := main
  exact ⟨p, e, h, NX3_addItem (v := p.1) e⟩
theorem T_addFull {F : Nat} {q : qT} {V : mV} {a b c : Int32} (hq : isQn V 544 q) (hm : Qm q = 16) : mX3_addItem F 544 a b c V = some ((), V) := by
  unfold mX3_addItem
  rw [hq.2.2.2.2.2.2.1, hm]
  rfl
theorem T_addToX {F c m : Nat} {q : qT} {x : Nat → Int32} {V : mV} {v : Int32} (hq : isQn V 544 (exQ q x)) (em : m = Qm q) (hm : Qm q ≤ 15) (hc : c < 5) : mTo (mX3_addTo F 544 (nI m) (nI c) v V) (fun p => isQn p.2 544 (exQ q (va_up x c (x c + v))) ∧ mAv (fun i => i = 544 ∨ i = 545) V p.2) := by
  subst em
  have main : mTo (mX3_addTo F 544 (nI (Qm q)) (nI c) v V) (fun p => isQn p.2 544 (exQ q (va_up x c (x c + v)))) := by
    obtain ⟨q0, q1, q2, q3, q4, q5, q6, q7, q8⟩ := hq
    have q7 : ∀ j, j < 5 * (Qm q + 1) → V.rI 545 j = addD q (Qm q) x j := q7
    have q8 : ∀ j, 5 * (Qm q + 1) ≤ j → addD q (Qm q) x j = 0 := q8
    unfold mX3_addTo
    rw [show (5 : Int32) = nI 5 from rfl, nI_mulC, nI_add]
    refine mTo.lt ?_
    rw [if_neg (nI_nn (by omega)), if_neg (fun z => by
      have := i32le.mp z
      rw [show (80 : Int32) = nI 80 from rfl, nI_toInt (by omega), nI_toInt (by omega)] at this
      omega)]
    refine mTo.ix rfl (show Qm q * 5 + c < 80 by omega) (by decide) (mTo.ix rfl (show Qm q * 5 + c < 80 by omega) (by decide) (mTo.lt (mTo.ret ?_)))
    refine ⟨q0, q1, q2, q3, q4, q5, q6, fun j hj => ?_, fun j hj => ?_⟩
    · have hj : j < 5 * (Qm q + 1) := hj
      show (mI V 545 (nI (Qm q * 5 + c)) (V.rI 545 (nI (Qm q * 5 + c)).toNatClampNeg + v)).rI 545 j = addD q (Qm q) (va_up x c (x c + v)) j
      rw [nI_clamp (by omega), q7 (Qm q * 5 + c) (by omega), mI_n (by omega)]
      by_cases e : j = Qm q * 5 + c
      · rw [if_pos e, e]
        unfold addD
        rw [if_pos (by omega), if_pos (by omega), show Qm q * 5 + c - 5 * Qm q = c by omega, mUp_eq]
      · rw [if_neg e, q7 j hj]
        unfold addD
        by_cases z : 5 * Qm q ≤ j ∧ j < 5 * Qm q + 5
        · rw [if_pos z, if_pos z, mUp_ne _ _ (by omega)]
        · rw [if_neg z, if_neg z]
    · have hj : 5 * (Qm q + 1) ≤ j := hj
      show addD q (Qm q) (va_up x c (x c + v)) j = 0
      have := q8 j hj
      unfold addD at this ⊢
      rw [if_neg (by omega)] at this ⊢
      exact this
  obtain ⟨p, e, h⟩ := main
  refine ⟨p, e, h, ?_⟩
  have := NX3_addTo (v := p.1) e
  exact mAv.tr mAv.rf this (fun i z => Or.inr z)
theorem T_addToFull {F c : Nat} {V : mV} {v : Int32} (hc : c < 5) : mX3_addTo F 544 (nI 16) (nI c) v V = some ((), V) := by
  unfold mX3_addTo
  rw [show (5 : Int32) = nI 5 from rfl, nI_mulC, nI_add]
  unfold mLt
  dsimp only
  rw [if_neg (nI_nn (by omega)), if_pos (by
    rw [show (80 : Int32) = nI 80 from rfl]
    exact i32le.mpr (by rw [nI_toInt (by omega), nI_toInt (by omega)]; omega))]
/-- the flow that a pairing becomes -/
def fiN (s : Nat) (lf : Nat → Bool) (A B : Nat → Nat) (i c : Nat) : Int32 := if c = 0 then nI (bA s lf A B i) else if c = 1 then nI (bB s lf A B i) else if c = 2 then 1 else 0
def flQ (s m b : Nat) (A B : Nat → Nat) (lf : Nat → Bool) : qT := ((1, s + 2, s + m, fun y => if y < 5 * (s + m) then fiN s lf A B (y / 5) (y % 5) else 0), nI ((s - b + 1) / 2), -1, 0, -1)
theorem fl_at {s m b i c : Nat} {A B : Nat → Nat} {lf : Nat → Bool} (hi : i < s + m) (hc : c < 5) : Qd (flQ s m b A B lf) (5 * i + c) = fiN s lf A B i c := by
  show (if 5 * i + c < 5 * (s + m) then fiN s lf A B ((5 * i + c) / 5) ((5 * i + c) % 5) else 0) = _
  rw [if_pos (by omega), show (5 * i + c) / 5 = i by omega, show (5 * i + c) % 5 = c by omega]
theorem fl_tr {s m b : Nat} {A B : Nat → Nat} {lf : Nat → Bool} : trQ (flQ s m b A B lf) (nI ((s - b + 1) / 2)) (s + m) = flQ s m b A B lf := by
  have : (fun y => if y < 5 * (s + m) then Qd (flQ s m b A B lf) y else 0) = Qd (flQ s m b A B lf) := funext (fun y => by
    by_cases c : y < 5 * (s + m)
    · rw [if_pos c]
    · rw [if_neg c]
      exact (if_neg c).symm)
  show ((1, s + 2, s + m, fun y => if y < 5 * (s + m) then Qd (flQ s m b A B lf) y else 0), nI ((s - b + 1) / 2), -1, 0, -1) = _
  rw [this]
  rfl
theorem five_fi {s i a c : Nat} {A B : Nat → Nat} {lf : Nat → Bool} (h1 : a = bA s lf A B i) (h2 : c = bB s lf A B i) : ∀ j, j < 5 → five (nI a) (nI c) 1 0 0 j = fiN s lf A B i j := fun j hj => by
  subst h1
  subst h2
  rcases (show j = 0 ∨ j = 1 ∨ j = 2 ∨ j = 3 ∨ j = 4 by omega) with e | e | e | e | e <;> subst e <;> rfl
def okF (s m : Nat) (A B : Nat → Nat) : Prop := (lfA (nrA m A B) s s).1 &&& (lfA (nrA m A B) s s).2 = 0 ∧ s + 2 ≤ 7 ∧ s + m ≤ 10
abbrev lfB (s m : Nat) (A B : Nat → Nat) (v : Nat) : Bool := (lfA (nrA m A B) s s).1.testBit v
theorem T_cPair {F e s m b : Nat} {d : Nat → Int32} {A B : Nat → Nat} {V : mV} (hF : 2 ^ 22 ≤ F) (he : 256 ≤ e) (he2 : e < 540) (h0 : 0 < s) (hs : s ≤ 9) (hm : m ≤ 16) (hb : b ≤ 9) (hq : enQ V e s m (nI b) d) (hd : ∀ i, i < m → d (5 * i) = nI (A i) ∧ d (5 * i + 1) = nI (B i) ∧ A i < s ∧ B i < s ∧ A i ≠ B i) : mTo (mX4_carriesPairings F e 544 V) (fun p => (okF s m A B ∧ p.1 = 1 ∧ isQn p.2 544 (flQ s m b A B (lfB s m A B))) ∨ (¬ okF s m A B ∧ p.1 = 0)) := by
  have hd4 : ∀ i, i < m → d (5 * i) = nI (A i) ∧ d (5 * i + 1) = nI (B i) ∧ A i < s ∧ B i < s := fun i hi => ⟨(hd i hi).1, (hd i hi).2.1, (hd i hi).2.2.1, (hd i hi).2.2.2.1⟩
  have hns : ∀ v, nrA m A B v < 2 ^ s := fun v => nearN_lt (fun i hi => ⟨(hd i hi).2.2.1, (hd i hi).2.2.2.1⟩)
  have s9 : (2 : Nat) ^ s ≤ 2 ^ 9 := Nat.pow_le_pow_right (by decide) hs
  have lt := lfA_lt hns s (Nat.le_refl _)
  unfold mX4_carriesPairings mX4_carriesPairings_s
  refine mTo.lt ?_
  rw [hq.1]
  refine mTo.W (T_leftSide hF he hs hm hq hd4) (fun v V1 _ h => ?_)
  obtain ⟨h1, f1⟩ := h
  have h1 : v = if (lfA (nrA m A B) s s).1 &&& (lfA (nrA m A B) s s).2 = 0 then nI (lfA (nrA m A B) s s).1 else -1 := h1
  have f1 : mAv (fun i => i = 18) V V1 := f1
  have hq1 := hq.mv f1 (by omega) (by omega)
  by_cases c0 : (lfA (nrA m A B) s s).1 &&& (lfA (nrA m A B) s s).2 = 0
  · rw [if_pos c0] at h1
    rw [h1, if_neg (nI_nn (by omega)), if_neg (by decide), show wkTab 1 ((1 : Int32)).toNatClampNeg = nI 7 from rfl, show (2 : Int32) = nI 2 from rfl, nI_add]
    refine mTo.ltI rfl rfl (by decide) (by omega) (fun z => mTo.ret (Or.inr ⟨fun c => by have := c.2.1; omega, rfl⟩)) (fun z => ?_)
    rw [if_neg (by decide), show wkTab 4 ((1 : Int32)).toNatClampNeg = nI 10 from rfl, hq1.2.1, nI_add]
    refine mTo.le rfl rfl (by omega) (by decide) (fun z2 => mTo.lt ?_) (fun z2 => mTo.ret (Or.inr ⟨fun c => by have := c.2.2; omega, rfl⟩))
    have ok : okF s m A B := ⟨c0, z, z2⟩
    have e8 : (if (0 : Int32) < (nI s - V1.fI e 8) then (nI s - V1.fI e 8) else (0 : Int32)) = nI (s - b) := by
      rw [hq1.2.2.1]
      rcases Nat.lt_or_ge b s with y | y
      · have : nI s - nI b = nI (s - b) := by rw [show s = b + (s - b) by omega, nI_subA, show b + (s - b) - b = s - b by omega]
        rw [this, if_pos (i32lt.mpr (by rw [nI_toInt (by omega)]; show (0 : Int) < _; omega))]
      · have : (nI s - nI b).toInt = (s : Int) - b := by
          rw [Int32.toInt_sub, nI_toInt (by omega), nI_toInt (by omega)]
          exact Int.bmod_eq_of_le (by omega) (by omega)
        rw [if_neg (fun w => by
          have := i32lt.mp w
          have e0 : (0 : Int32).toInt = 0 := rfl
          omega), show s - b = 0 by omega]
        rfl
    rw [e8, nI_1, nI_div (a := s - b + 1) (b := 2) (by omega) (by decide) (by decide)]
    refine mTo.W (T_begin3 (F := F) (e := 544) (k := 1) (s := s + 2) (b := nI ((s - b + 1) / 2)) (V := V1)) (fun _ V2 _ h => ?_)
    obtain ⟨b1, _, b3⟩ := h
    have b1 : isQn V2 544 (newQ 1 (s + 2) (nI ((s - b + 1) / 2))) := b1
    have b3 : mAv (fun i => i = 544) V1 V2 := b3
    have hq2 := hq1.mv b3 (by omega) (by omega)
    obtain ⟨dq, hdq⟩ : ∃ dq, dq = flQ s m b A B (lfB s m A B) := ⟨_, rfl⟩
    obtain ⟨bb, hbb⟩ : ∃ bb, bb = nI ((s - b + 1) / 2) := ⟨_, rfl⟩
    have go1 : ∀ k' j V3, m < j + k' → j ≤ m → enQ V3 e s m (nI b) d → isQn V3 544 (trQ dq bb (s + j)) → mTo (mX4_carriesPairings_go F k' 1 e 544 0 (nI (lfA (nrA m A B) s s).1) (nI j) V3) (fun p => (okF s m A B ∧ p.1 = 1 ∧ isQn p.2 544 (flQ s m b A B (lfB s m A B))) ∨ (¬ okF s m A B ∧ p.1 = 0)) := by
      intro k'
      induction k' with
      | zero => intro j V3 h1 h2; omega
      | succ k' ih =>
        intro j V3 k1 k2 q3 d3
        rw [mX4_carriesPairings_go, if_neg (by decide), if_pos rfl]
        unfold mX4_carriesPairings_b1
        refine mTo.le q3.2.1 rfl (by omega) (by omega) (fun y => ?_) (fun y => ?_)
        · have : j = m := by omega
          subst this
          refine mTo.ret (Or.inl ⟨ok, rfl, ?_⟩)
          have d3 : isQn V3 544 (trQ dq bb (s + j)) := d3
          rw [hdq, hbb, fl_tr] at d3
          exact d3
        · obtain ⟨x0, x1, xa, xb, xne⟩ := hd j y
          refine T_iN (T_item q3.2.1 hm y (show 0 < 5 by decide) rfl ((q3.2.2.2 _ (by omega)).trans x0)) (mTo.lt ?_)
          refine T_iN (T_item q3.2.1 hm y (show 1 < 5 by decide) rfl ((q3.2.2.2 _ (by omega)).trans x1)) (mTo.lt ?_)
          rw [nI_1, nI_1, nI_1, nI_pred]
          have hh := bAB_hi (s := s) (j := j) (lf := lfB s m A B) (A := A) (B := B)
          have fin : ∀ a c, a = bA s (lfB s m A B) A B (s + j) → c = bB s (lfB s m A B) A B (s + j) → mTo (mBW (mX3_addItem F 544 (nI a) (nI c) ((1 : Int32)) V3) fun v40 V41 => (mLt (nI (j + 1)) fun x45 => (mX4_carriesPairings_go F k' 1 e 544 0 (nI (lfA (nrA m A B) s s).1) (x45) V41))) (fun p => (okF s m A B ∧ p.1 = 1 ∧ isQn p.2 544 (flQ s m b A B (lfB s m A B))) ∨ (¬ okF s m A B ∧ p.1 = 0)) := fun a c ha hc => by
            refine mTo.W (T_addItem d3 (show s + j ≤ 15 by omega)) (fun _ V4 _ h => ?_)
            obtain ⟨g1, g2⟩ := h
            have g1 : isQn V4 544 (exQ (trQ dq bb (s + j)) (five (nI a) (nI c) 1 0 0)) := g1
            have g2 : mAv (fun i => i = 544 ∨ i = 545) V3 V4 := g2
            rw [exQ_tr (fun c' hc' => by rw [five_fi ha hc c' hc', hdq, fl_at (by omega) hc'])] at g1
            exact mTo.lt (ih (j + 1) V4 (by omega) (by omega) (q3.mv g2 (by omega) (by omega)) g1)
          cases cb : (lfA (nrA m A B) s s).1.testBit (A j) with
          | true =>
            refine T_iN (nb_hasT (by omega) (by omega) cb) ?_
            rw [if_neg (by decide), if_neg (by decide)]
            exact fin _ _ (by rw [hh.1]; exact (if_pos cb).symm) (by rw [hh.2]; exact (if_pos cb).symm)
          | false =>
            refine T_iN (nb_hasF (by omega) (by omega) cb) ?_
            rw [if_pos rfl, if_pos rfl]
            exact fin _ _ (by rw [hh.1]; exact (if_neg (fun z => Bool.false_ne_true (cb.symm.trans z))).symm) (by rw [hh.2]; exact (if_neg (fun z => Bool.false_ne_true (cb.symm.trans z))).symm)
    have go0 : ∀ k' j V3, s + m + 2 < j + k' → j ≤ s → enQ V3 e s m (nI b) d → isQn V3 544 (trQ dq bb j) → mTo (mX4_carriesPairings_go F k' 0 e 544 (nI s) (nI (lfA (nrA m A B) s s).1) (nI j) V3) (fun p => (okF s m A B ∧ p.1 = 1 ∧ isQn p.2 544 (flQ s m b A B (lfB s m A B))) ∨ (¬ okF s m A B ∧ p.1 = 0)) := by
      intro k'
      induction k' with
      | zero => intro j V3 h1 h2; omega
      | succ k' ih =>
        intro j V3 k1 k2 q3 d3
        rw [mX4_carriesPairings_go, if_pos rfl]
        unfold mX4_carriesPairings_b0
        refine mTo.le rfl rfl (by omega) (by omega) (fun y => ?_) (fun y => ?_)
        · have : j = s := by omega
          subst this
          exact go1 k' 0 V3 (by omega) (Nat.zero_le _) q3 d3
        · have hh := bAB_lo (lf := lfB s m A B) (A := A) (B := B) y
          have fin : ∀ a c, a = bA s (lfB s m A B) A B j → c = bB s (lfB s m A B) A B j → mTo (mBW (mX3_addItem F 544 (nI a) (nI c) ((1 : Int32)) V3) fun v8 V9 => (mLt (nI (j + 1)) fun x13 => (mX4_carriesPairings_go F k' 0 e 544 (nI s) (nI (lfA (nrA m A B) s s).1) (x13) V9))) (fun p => (okF s m A B ∧ p.1 = 1 ∧ isQn p.2 544 (flQ s m b A B (lfB s m A B))) ∨ (¬ okF s m A B ∧ p.1 = 0)) := fun a c ha hc => by
            refine mTo.W (T_addItem d3 (show j ≤ 15 by omega)) (fun _ V4 _ h => ?_)
            obtain ⟨g1, g2⟩ := h
            have g1 : isQn V4 544 (exQ (trQ dq bb j) (five (nI a) (nI c) 1 0 0)) := g1
            have g2 : mAv (fun i => i = 544 ∨ i = 545) V3 V4 := g2
            rw [exQ_tr (fun c' hc' => by rw [five_fi ha hc c' hc', hdq, fl_at (by omega) hc'])] at g1
            exact mTo.lt (ih (j + 1) V4 (by omega) (by omega) (q3.mv g2 (by omega) (by omega)) g1)
          rw [nI_1, nI_1]
          refine mTo.hs rfl rfl (by omega) (by omega) (fun cb => ?_) (fun cb => ?_)
          · have := fin (j + 1) (s + 1) (by rw [hh.1]; exact (if_neg (fun z => Bool.false_ne_true (cb.symm.trans z))).symm) (by rw [hh.2]; exact (if_neg (fun z => Bool.false_ne_true (cb.symm.trans z))).symm)
            exact this
          · have := fin 0 (j + 1) (by rw [hh.1]; exact (if_pos cb).symm) (by rw [hh.2]; exact (if_pos cb).symm)
            exact this
    refine go0 F 0 V2 (by omega) (Nat.zero_le _) hq2 ?_
    rw [hdq, hbb]
    exact b1
  · rw [if_neg c0] at h1
    rw [h1, if_pos (by decide)]
    exact mTo.ret (Or.inr ⟨fun c => c0 c.1, rfl⟩)
end
