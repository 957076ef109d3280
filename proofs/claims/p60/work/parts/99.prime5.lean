/-! THE PURE PART, primes: the solver; the refutation's judge; the kept row is accepted. -/
section
theorem chR_at {lo : Nat} : ∀ n, chR lo n = true → ∀ p, lo ≤ p → p < lo + n → chP p = true
  | 0, _, p, h1, h2 => by omega
  | n + 1, h, p, h1, h2 => by
    rw [chR, Bool.and_eq_true] at h
    by_cases z : p = lo + n
    · rw [z]
      exact h.1
    · exact chR_at n h.2 p h1 (by omega)
theorem ch_all {p : Nat} (h2 : 2 ≤ p) (h4 : p < 10000) : chP p = true := by
  rcases Nat.lt_or_ge p 100 with z | z
  · exact chR_at _ ch_0 p h2 (by omega)
  rcases Nat.lt_or_ge p 1000 with z1 | z1
  · exact chR_at _ ch_1 p z (by omega)
  rcases Nat.lt_or_ge p 2000 with z2 | z2
  · exact chR_at _ ch_2 p z1 (by omega)
  rcases Nat.lt_or_ge p 3000 with z3 | z3
  · exact chR_at _ ch_3 p z2 (by omega)
  rcases Nat.lt_or_ge p 4000 with z4 | z4
  · exact chR_at _ ch_4 p z3 (by omega)
  rcases Nat.lt_or_ge p 5000 with z5 | z5
  · exact chR_at _ ch_5 p z4 (by omega)
  rcases Nat.lt_or_ge p 6000 with z6 | z6
  · exact chR_at _ ch_6 p z5 (by omega)
  rcases Nat.lt_or_ge p 7000 with z7 | z7
  · exact chR_at _ ch_7 p z6 (by omega)
  rcases Nat.lt_or_ge p 8000 with z8 | z8
  · exact chR_at _ ch_8 p z7 (by omega)
  rcases Nat.lt_or_ge p 9000 with z9 | z9
  · exact chR_at _ ch_9 p z8 (by omega)
  · exact chR_at _ ch_10 p z9 (by omega)
theorem wod_b {n d : Nat} (hn : 1 ≤ n) (h : n < 10000) (hd : 2 ≤ d) : 1 ≤ wod n d ∧ wod n d ≤ n := by
  obtain ⟨a, _, _, b⟩ := wdN_ok hd 32 n hn (by omega)
  exact ⟨a, b⟩
theorem T_ib {F a p : Nat} (hF : 256 ≤ F) (ha : a < p) (h3 : 3 ≤ p) (h4 : p < 10000) : mX8_isBaseOf F (nI a) (nI p) = some (if ibN a p 40 (p - 1) = true then 1 else 0) := by
  have go : ∀ k' k t rest, k < k' → k + t = 40 → 1 ≤ rest → rest < p → mTo (mX8_isBaseOf_go F k' 0 (nI a) (nI p) (nI rest) (nI t)) (fun v => v = if ibN a p k rest = true then 1 else 0) := by
    intro k'
    induction k' with
    | zero => intro k t rest h; omega
    | succ k' ih =>
      intro k t rest h hk h1 hr
      rw [mX8_isBaseOf_go, if_pos rfl]
      unfold mX8_isBaseOf_b0
      cases k with
      | zero => exact mTo.le (a := 40) rfl rfl (by omega) (by omega) (fun _ => mTo.ret rfl) (fun z => by omega)
      | succ k =>
        rw [ibN]
        refine mTo.le (a := 40) rfl rfl (by omega) (by omega) (fun z => by omega) (fun _ => mTo.le (b := 1) rfl rfl (by omega) (by omega) (fun z => ?_) (fun z => mTo.so (T_ld (by omega) (by omega)) ?_))
        · rw [if_pos (c := rest ≤ 1) z]
          exact mTo.ret rfl
        · obtain ⟨l1, l2, l3, l4⟩ := ldv_ok (n := rest) (by omega) (by omega)
          rw [if_neg (c := rest ≤ 1) (by omega), if_neg (c := ld rest < 2) (by omega)]
          generalize ld rest = d at *
          have p1 : nI p - 1 = nI (p - 1) := by
            obtain ⟨x, rfl⟩ : ∃ x, p = x + 1 := ⟨p - 1, by omega⟩
            rw [nI_pred, Nat.add_sub_cancel]
          have dl := Nat.div_le_self (p - 1) d
          have lw : pw a ((p - 1) / d) p < p := pwN_lt (by omega) _ _ _ _ (Nat.mod_lt _ (by omega))
          refine mTo.ltI (b := 2) rfl rfl (by omega) (by omega) (fun z => by omega) (fun _ => mTo.eqI (b := 0) rfl rfl (by omega) (by omega) (fun z => by omega) (fun _ => ?_))
          rw [p1, pk_div (by omega) (by omega) (by omega)]
          refine mTo.so (T_pw (by omega) (by omega) (by omega) (by omega) (by omega)) (mTo.eqI (b := 1) rfl rfl (by omega) (by omega) (fun y => ?_) (fun y => mTo.so (T_wd (by omega) (by omega) (by omega)) (mTo.lt ?_)))
          · rw [if_pos (c := pw a ((p - 1) / d) p = 1) y]
            exact mTo.ret rfl
          · rw [if_neg (c := pw a ((p - 1) / d) p = 1) y, nI_1]
            obtain ⟨w1, w2⟩ := wod_b (n := rest) (d := d) h1 (by omega) l1
            exact ih k (t + 1) (wod rest d) (by omega) (by omega) w1 (by omega)
  unfold mX8_isBaseOf mX8_isBaseOf_s
  have p1 : nI p - 1 = nI (p - 1) := by
    obtain ⟨x, rfl⟩ : ∃ x, p = x + 1 := ⟨p - 1, by omega⟩
    rw [nI_pred, Nat.add_sub_cancel]
  rw [p1]
  obtain ⟨v, e, q⟩ := go F 40 0 (p - 1) (by omega) rfl (by omega) (by omega)
  show mX8_isBaseOf_go F F 0 (nI a) (nI p) (nI (p - 1)) (nI 0) = _
  rw [e, q]
theorem bsN_lt {p : Nat} : ∀ k a, 1 < p → bsN p k a < p
  | 0, a, h => h
  | k + 1, a, h => by
    rw [bsN]
    by_cases z : p ≤ a
    · rw [if_pos z]
      exact h
    · rw [if_neg z]
      by_cases c : ibN a p 40 (p - 1) = true
      · rw [if_pos c]
        omega
      · rw [if_neg c]
        exact bsN_lt k (a + 1) h
theorem T_bs {F p : Nat} (hF : 2 ^ 15 ≤ F) (h3 : 3 ≤ p) (h4 : p < 10000) : mX8_baseOf F (nI p) = some (nI (bsN p p 2)) := by
  have go : ∀ k' k a, k < k' → k + a = p + 2 → mTo (mX8_baseOf_go F k' 0 (nI p) (nI a)) (fun v => v = nI (bsN p k a)) := by
    intro k'
    induction k' with
    | zero => intro k a h; omega
    | succ k' ih =>
      intro k a h hk
      rw [mX8_baseOf_go, if_pos rfl]
      unfold mX8_baseOf_b0
      cases k with
      | zero => exact mTo.le rfl rfl (by omega) (by omega) (fun _ => mTo.ret rfl) (fun z => by omega)
      | succ k =>
        rw [bsN]
        refine mTo.le rfl rfl (by omega) (by omega) (fun z => ?_) (fun z => mTo.so (T_ib (by omega) z h3 h4) ?_)
        · rw [if_pos (c := p ≤ a) z]
          exact mTo.ret rfl
        · rw [if_neg (c := p ≤ a) (by omega)]
          cases c : ibN a p 40 (p - 1) with
          | true =>
            rw [if_pos (c := true = true) rfl, if_neg (show ¬ (1 : Int32) = 0 by decide), if_pos (c := true = true) rfl]
            exact mTo.ret rfl
          | false =>
            rw [if_neg (c := false = true) (by decide), if_pos (show (0 : Int32) = 0 from rfl), if_neg (c := false = true) (by decide)]
            refine mTo.lt ?_
            rw [nI_1]
            exact ih k (a + 1) (by omega) (by omega)
  unfold mX8_baseOf mX8_baseOf_s
  obtain ⟨v, e, q⟩ := go F p 2 (by omega) rfl
  show mX8_baseOf_go F F 0 (nI p) (nI 2) = _
  rw [e, q]
theorem T_writePrime {F r : Nat} (hF : 2 ^ 15 ≤ F) (hk : mK r = 9) : ∀ j dp p acc Ln (V : mV), dp + j = 48 → 0 < j → 1 ≤ p → p < 10000 → acc.length + (wrP j p).length ≤ 1024 → rowIs Ln V r acc → mTo (mX8_writePrime F j Ln (nI p) r (nI dp) V) (fun q => rowIs q.2.1 q.2.2 r (acc ++ (wrP j p).map nI)) := by
  intro j
  induction j with
  | zero => intro dp p acc Ln V _ h; omega
  | succ j ihj =>
    intro dp p acc Ln V hd _ h1 h4 hl hR
    have go : j ≠ 0 → ∀ k' k t rest acc Ln (V : mV), k < k' → k + t = 40 → 1 ≤ rest → rest < 10000 → acc.length + (wrL (wrP j) k rest).length ≤ 1024 → rowIs Ln V r acc → mTo (mX8_writePrime_go F (mX8_writePrime F j) k' 0 Ln r (nI dp) (nI rest) (nI t) V) (fun q => rowIs q.2.1 q.2.2 r (acc ++ (wrL (wrP j) k rest).map nI)) := by
      intro hj k'
      induction k' with
      | zero => intro k t rest acc Ln V h; omega
      | succ k' ih =>
        intro k t rest acc Ln V h hk1 hr1 hr hl hR
        rw [mX8_writePrime_go, if_pos rfl]
        unfold mX8_writePrime_b0
        cases k with
        | zero => exact mTo.le (a := 40) rfl rfl (by omega) (by omega) (fun _ => mTo.ret (by rw [wrL, List.map_nil, List.append_nil]; exact hR)) (fun z => by omega)
        | succ k =>
          rw [wrL] at hl ⊢
          refine mTo.le (a := 40) rfl rfl (by omega) (by omega) (fun z => by omega) (fun _ => mTo.le (b := 1) rfl rfl (by omega) (by omega) (fun z => mTo.ret ?_) (fun z => mTo.so (T_ld (by omega) (by omega)) ?_))
          · rw [if_pos (c := rest ≤ 1) z, List.map_nil, List.append_nil]
            exact hR
          · obtain ⟨l1, l2, l3, l4⟩ := ldv_ok (n := rest) (by omega) (by omega)
            rw [if_neg (c := rest ≤ 1) (by omega)] at hl ⊢
            generalize ld rest = d at *
            rw [List.length_append] at hl
            rw [nI_1]
            refine mTo.A (ihj (dp + 1) d acc Ln V (by omega) (by omega) (by omega) (by omega) (by omega) hR) (fun a L1 V1 _ q => mTo.so (T_wd (by omega) (by omega) (by omega)) (mTo.lt ?_))
            have q : rowIs L1 V1 r (acc ++ (wrP j d).map nI) := q
            obtain ⟨w1, w2⟩ := wod_b (n := rest) (d := d) hr1 (by omega) l1
            have g := ih k (t + 1) (wod rest d) (acc ++ (wrP j d).map nI) L1 V1 (by omega) (by omega) w1 (by omega) (by rw [List.length_append, List.length_map]; omega) q
            rw [List.append_assoc, ← List.map_append] at g
            rw [nI_1]
            exact g
    have wl : 1 ≤ (wrP (j + 1) p).length := by
      rw [wrP]
      by_cases z : p ≤ 2
      · rw [if_pos z]
        exact Nat.le_refl _
      · rw [if_neg z]
        by_cases y : 40 < 48 - (j + 1)
        · rw [if_pos y]
          exact Nat.le_refl _
        · rw [if_neg y, List.length_cons]
          omega
    rw [mX8_writePrime]
    unfold mX8_writePrime_a mX8_writePrime_s
    refine mTo.A (T_radd hk hR (by omega)) (fun a L1 V1 _ q => ?_)
    obtain ⟨q1, _, _⟩ := q
    have q1 : rowIs L1 V1 r (acc ++ [nI p]) := q1
    rw [wrP] at hl ⊢
    refine mTo.le (b := 2) rfl rfl (by omega) (by omega) (fun z => mTo.ret ?_) (fun z => ?_)
    · rw [if_pos (c := p ≤ 2) z]
      exact q1
    · rw [if_neg (c := p ≤ 2) (by omega)] at hl ⊢
      refine mTo.le (b := 40) rfl rfl (by omega) (by omega) (fun y => mTo.so (T_bs hF (by omega) h4) ?_) (fun y => mTo.ret ?_)
      · rw [if_neg (c := 40 < 48 - (j + 1)) (by omega)] at hl ⊢
        rw [List.length_cons, List.length_cons] at hl
        refine mTo.A (T_radd hk q1 (by rw [List.length_append]; show acc.length + 1 < 1024; omega)) (fun a L2 V2 _ q => mTo.lt ?_)
        obtain ⟨q2, _, _⟩ := q
        have p1 : nI p - 1 = nI (p - 1) := by
          obtain ⟨x, rfl⟩ : ∃ x, p = x + 1 := ⟨p - 1, by omega⟩
          rw [nI_pred, Nat.add_sub_cancel]
        rw [p1]
        have g := go (by omega) F 40 0 (p - 1) (acc ++ [nI p] ++ [nI (bsN p p 2)]) L2 V2 (by omega) rfl (by omega) (by omega) (by rw [List.length_append, List.length_append]; show acc.length + 1 + 1 + _ ≤ 1024; omega) q2
        rw [List.append_assoc, List.append_assoc] at g
        exact g
      · rw [if_pos (c := 40 < 48 - (j + 1)) (by omega)]
        exact q1
def rowN (b : Nat) : List Int32 := if ld b = b then (wrP 48 b).map nI else [nI (ld b), nI (b / ld b)]
theorem rowN_yes {b : Nat} (h2 : 2 ≤ b) (h4 : b < 10000) (h : ld b = b) : primeOK b (rowN b) ∧ (wrP 48 b).length ≤ 100 := by
  have c := ch_all h2 h4
  unfold chP at c
  rw [decide_eq_false (fun y => y h), Bool.false_or, Bool.and_eq_true, Bool.and_eq_true, decide_eq_true_eq, decide_eq_true_eq, decide_eq_true_eq] at c
  obtain ⟨⟨c1, c2⟩, c3⟩ := c
  unfold rowN
  rw [if_pos h]
  refine ⟨⟨?_, ?_, ?_⟩, c1⟩
  · rw [List.length_map]
    exact c2
  · rw [wrP]
    by_cases z : b ≤ 2
    · rw [if_pos z]
      rfl
    · rw [if_neg z, if_neg (by decide)]
      rfl
  · rw [List.length_map]
    exact c3
theorem rowN_no {b : Nat} (h2 : 2 ≤ b) (h4 : b < 10000) (h : ld b ≠ b) : prodOK b (rowN b) := by
  obtain ⟨a1, a2, a3, a4⟩ := ldv_ok h2 h4
  unfold rowN
  rw [if_neg h]
  generalize ld b = d at *
  have m := Nat.div_add_mod b d
  rw [a3, Nat.add_zero] at m
  have dl := Nat.div_le_self b d
  have e0 : pX [nI d, nI (b / d)] 0 = d := pX_eq (i := 0) rfl (by omega)
  have e1 : pX [nI d, nI (b / d)] 1 = b / d := pX_eq (i := 1) rfl (by omega)
  refine ⟨rfl, by rw [e0]; exact a1, ?_, by rw [e0, e1]; exact m⟩
  rw [e1]
  rcases Nat.lt_or_ge (b / d) 2 with y | y
  · rcases Nat.lt_or_ge (b / d) 1 with w | w
    · have w0 : b / d = 0 := Nat.lt_one_iff.mp w
      rw [w0, Nat.mul_zero] at m
      omega
    · have w0 : b / d = 1 := by omega
      rw [w0, Nat.mul_one] at m
      omega
  · exact y
theorem T_judgeProduct {F e r s m b : Nat} {Ln : Nat → Nat} {d : Nat → Int32} {xs : List Int32} {V : mV} (hb : b < 10000) (hq : enQ V e s m (nI b) d) (hR : rowIs Ln V r xs) : mTo (mX8_judgeProduct F Ln e r V) (fun v => v = 0 ↔ prodOK b xs) := by
  have n := hR.n
  have no : ∀ {P : Prop}, (1 : Int32) = 0 → P := fun z => absurd z (by decide)
  unfold mX8_judgeProduct
  refine mTo.eqI (b := 2) hR.1 rfl (by omega) (by omega) (fun h1 => mTo.so (T_rAt (j := 0) hR (by omega)) ?_) (fun h1 => mTo.ret ⟨fun y => no y, fun y => absurd y.1 h1⟩)
  have l0 : xs.getD 0 0 < (2 : Int32) ↔ pX xs 0 < 2 := pX_lt (b := 2) (by omega) (by omega)
  have l1 : xs.getD 1 0 < (2 : Int32) ↔ pX xs 1 < 2 := pX_lt (b := 2) (by omega) (by omega)
  refine mTo.ite (fun h2 => mTo.ret ⟨fun y => no y, fun y => ?_⟩) (fun h2 => mTo.so (T_rAt (j := 1) hR (by omega)) (mTo.ite (fun h3 => ?_) (fun h3 => mTo.ret ⟨fun y => no y, fun y => ?_⟩)))
  · have := l0.mp h2
    have := y.2.1
    omega
  · have a0 : ¬ pX xs 0 < 2 := fun y => h2 (l0.mpr y)
    have a1 : ¬ pX xs 1 < 2 := fun y => by
      have y1 := i32lt.mp (l1.mpr y)
      have y2 := i32le.mp h3
      omega
    obtain ⟨x31, xe⟩ := pX_n (x := xs.getD 0 0) (by have : ¬ (xs.getD 0 0).toNatClampNeg < 2 := a0; omega)
    obtain ⟨y31, ye⟩ := pX_n (x := xs.getD 1 0) (by have : ¬ (xs.getD 1 0).toNatClampNeg < 2 := a1; omega)
    have x31 : pX xs 0 < 2 ^ 31 := x31
    have y31 : pX xs 1 < 2 ^ 31 := y31
    have xe : xs.getD 0 0 = nI (pX xs 0) := xe
    have ye : xs.getD 1 0 = nI (pX xs 1) := ye
    refine mTo.so (T_rAt (j := 0) hR (by omega)) (mTo.so (T_rAt (j := 1) hR (by omega)) ?_)
    rw [xe, ye, hq.2.2.1, nI_l x31, nI_l y31, nI_l (by omega), lN_mul]
    have pr : pX xs 0 * pX xs 1 < 2 ^ 63 := by
      have h1 : pX xs 0 * pX xs 1 ≤ 2 ^ 31 * pX xs 1 := Nat.mul_le_mul_right _ (by omega)
      have h2 : 2 ^ 31 * pX xs 1 < 2 ^ 31 * 2 ^ 31 := Nat.mul_lt_mul_of_pos_left y31 (by decide)
      have e3 : (2 : Nat) ^ 31 * 2 ^ 31 = 2 ^ 62 := by decide
      omega
    refine mTo.ite (fun q => mTo.ret ⟨fun _ => ⟨h1, by omega, by omega, ?_⟩, fun _ => rfl⟩) (fun q => mTo.ret ⟨fun y => absurd (show (2 : Int32) = 0 from y) (by decide), fun y => absurd ?_ q⟩)
    · have := congrArg Int64.toInt ((lg_cmp_eq _ _).mp q)
      rw [lN_int pr, lN_int (by omega)] at this
      omega
    · rw [y.2.2.2]
      exact (lg_cmp_eq _ _).mpr rfl
  · exfalso
    refine h3 (i32le.mpr (Int.not_lt.mp fun z => ?_))
    have := l1.mp (i32lt.mpr z)
    have := y.2.2.1
    omega
theorem T_solvePrimes {F e s m b : Nat} {Ln : Nat → Nat} {d : Nat → Int32} {V : mV} (hF : 2 ^ 22 ≤ F) (he : 256 ≤ e) (he2 : e < 1024) (hk : mK (e + 2) = 9) (hb2 : 2 ≤ b) (hb : b < 10000) (hq : enQ V e s m (nI b) d) (hR : rowIs Ln V (e + 2) []) : mTo (mX8_solvePrimes F Ln e V) (fun p => (ld b = b → p.2.2.fI e 11 = 121) ∧ (ld b ≠ b → p.2.2.fI e 11 = 110) ∧ p.2.2.fI e 12 = nI (ld b) ∧ rowIs p.2.1 p.2.2 (e + 2) (rowN b)) := by
  obtain ⟨a1, a2, a3, a4⟩ := ldv_ok hb2 hb
  have dl := Nat.div_le_self b (ld b)
  unfold mX8_solvePrimes
  refine mTo.lt ?_
  rw [hq.2.2.1]
  refine mTo.so (T_ld (by omega) hb) ?_
  have told : ∀ (x : Int32) {Q : Unit × mV → Prop}, (∀ V3 : mV, V3.fI e 11 = (if x = 0 then (110 : Int32) else 121) → V3.fI e 12 = nI (ld b) → rowIs Ln V3 (e + 2) [] → Q ((), V3)) → mTo (mX3_tell F e x (nI (ld b)) V) Q := fun x Q hQ => by
    obtain ⟨p, e1, t1, t2, t3, t4, _, t5⟩ := T_tell (F := F) (e := e) (x := x) (t := nI (ld b)) (V := V)
    refine ⟨p, e1, hQ p.2 t1 t2 ?_⟩
    obtain ⟨a1, a2, a3, a4⟩ := hR
    exact ⟨by rw [t5 _ (by omega)]; exact a1, a2, a3, fun i hi => by rw [t4]; exact a4 i hi⟩
  refine mTo.eqI rfl rfl (by omega) (by omega) (fun z => ?_) (fun z => ?_)
  · obtain ⟨_, wl⟩ := rowN_yes hb2 hb z
    refine mTo.W (Q := fun q => q.2.fI e 11 = (121 : Int32) ∧ q.2.fI e 12 = nI (ld b) ∧ rowIs Ln q.2 (e + 2) []) (told 1 (fun V3 h1 h2 h5 => ⟨by rw [h1, if_neg (by decide)], h2, h5⟩)) (fun x V3 _ q => ?_)
    obtain ⟨t1, t2, t5⟩ := q
    have t1 : V3.fI e 11 = 121 := t1
    have t2 : V3.fI e 12 = _ := t2
    rw [if_pos (show nI (ld b) = nI b by rw [z])]
    obtain ⟨p5, e5, g5⟩ := T_writePrime (F := F) (r := e + 2) (by omega) hk 48 0 b [] Ln V3 rfl (by omega) (by omega) hb (by show 0 + _ ≤ 1024; omega) t5
    have fr2 := (NX8_writePrime (v := p5.1) (Ln1 := p5.2.1) (V1 := p5.2.2) e5).1
    have fe : p5.2.2.fI e = V3.fI e := (fr2.1 e (by unfold wX8_writePrime; omega)).1
    have e5 : mX8_writePrime F 48 Ln (nI b) (e + 2) (0 : Int32) V3 = some p5 := e5
    refine mTo.A (Q := fun p => rowIs p.2.1 p.2.2 (e + 2) ([] ++ (wrP 48 b).map nI)) ⟨p5, e5, g5⟩ (fun a L6 V6 h6 q' => mTo.ret ?_)
    rw [e5] at h6
    cases h6
    refine ⟨fun _ => by rw [fe, t1], fun w => absurd z w, by rw [fe, t2], ?_⟩
    unfold rowN
    rw [if_pos z]
    exact q'
  · refine mTo.W (Q := fun q => q.2.fI e 11 = (110 : Int32) ∧ q.2.fI e 12 = nI (ld b) ∧ rowIs Ln q.2 (e + 2) []) (told 0 (fun V3 h1 h2 h5 => ⟨by rw [h1, if_pos rfl], h2, h5⟩)) (fun x V3 _ q => ?_)
    obtain ⟨t1, t2, t5⟩ := q
    have t1 : V3.fI e 11 = 110 := t1
    have t2 : V3.fI e 12 = _ := t2
    rw [if_neg (fun y => z ((nI_eq (by omega) (by omega)).mp y))]
    refine mTo.A (T_radd hk t5 (by show 0 < 1024; omega)) (fun a L4 V4 _ q => ?_)
    obtain ⟨r1, r2, _⟩ := q
    have r2 : mAv (wX9_add (e + 2)) V3 V4 := r2
    rw [if_neg (nI_ne0 (by omega) (by omega)), pk_div (by omega) (by omega) (by omega)]
    refine mTo.A (T_radd hk r1 (by show 1 < 1024; omega)) (fun a L5 V5 _ q => mTo.ret ?_)
    obtain ⟨s1, s2, _⟩ := q
    have s2 : mAv (wX9_add (e + 2)) V4 V5 := s2
    have fe : V5.fI e = V3.fI e := ((s2.1 e (by unfold wX9_add; omega)).1).trans (r2.1 e (by unfold wX9_add; omega)).1
    refine ⟨fun w => absurd w z, fun _ => by show V5.fI e 11 = 110; rw [fe, t1], by show V5.fI e 12 = _; rw [fe, t2], ?_⟩
    unfold rowN
    rw [if_neg z]
    exact s1
end
