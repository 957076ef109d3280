/-! THE PURE PART, clauses: the solver, the whole; the kept row is accepted. -/
section
/-- the first below k that X has; k: none -/
def ftN (X : Nat → Bool) : Nat → Nat
  | 0 => 0
  | k + 1 => if ftN X k < k then ftN X k else if X k = true then k else k + 1
theorem ftN_spec {X : Nat → Bool} : ∀ k, (ftN X k < k → X (ftN X k) = true) ∧ (∀ l, l < ftN X k → X l = false) ∧ ftN X k ≤ k
  | 0 => ⟨fun h => absurd h (Nat.not_lt_zero _), fun l h => absurd h (Nat.not_lt_zero l), Nat.le_refl _⟩
  | k + 1 => by
    obtain ⟨a, b, c⟩ := ftN_spec (X := X) k
    rw [ftN]
    by_cases h : ftN X k < k
    · rw [if_pos h]
      exact ⟨fun _ => a h, b, by omega⟩
    · have e : ftN X k = k := by omega
      rw [if_neg h]
      rw [e] at b
      by_cases h2 : X k = true
      · rw [if_pos h2]
        exact ⟨fun _ => h2, b, by omega⟩
      · rw [if_neg h2]
        refine ⟨fun z => absurd z (Nat.lt_irrefl _), fun l hl => ?_, Nat.le_refl _⟩
        by_cases e2 : l = k
        · subst e2
          exact Bool.eq_false_iff.mpr h2
        · exact b l (by omega)
theorem ftN_cnt {X : Nat → Bool} {k : Nat} : cnt X k = 0 ↔ ftN X k = k := by
  obtain ⟨a, b, c⟩ := ftN_spec (X := X) k
  constructor
  · intro h
    rcases Nat.lt_or_ge (ftN X k) k with z | z
    · have := cnt_pos (a z) z
      omega
    · omega
  · intro h
    exact cnt_0 k (fun i hi => b i (by omega))
/-- the truths' numbers that fulfil -/
def okT (d : Nat → Int32) (m s b T : Nat) : Bool := okB d m s b (2 ^ s + T)
def rowS (d : Nat → Int32) (m s b : Nat) : List Int32 := if cnt (okT d m s b) (2 ^ s) = 0 then gtL d m b 129 1 else rwL (trG (ftN (okT d m s b) (2 ^ s)) s) s
theorem okT_no {d : Nat → Int32} {m s b : Nat} (h : cnt (okT d m s b) (2 ^ s) = 0) : ∀ x, 2 ^ s ≤ x → x < 2 ^ (s + 1) → ¬ okX d m s b x := fun x h1 h2 hx => by
  have ps : (2 : Nat) ^ (s + 1) = 2 * 2 ^ s := by rw [Nat.pow_succ, Nat.mul_comm]
  have := cnt_pos (X := okT d m s b) (i := x - 2 ^ s) (n := 2 ^ s) (by unfold okT; rw [show 2 ^ s + (x - 2 ^ s) = x by omega]; exact okB_iff.mpr hx) (by omega)
  omega
theorem T_solveClauses {F e s m b : Nat} {Ln : Nat → Nat} {d : Nat → Int32} {V : mV} (hF : 2 ^ 22 ≤ F) (he : 256 ≤ e) (he2 : e < 1024) (hk : mK (e + 2) = 9) (hs : s ≤ 6) (h0 : 0 < s) (hm : m ≤ 12) (hb : b < 2 ^ 20) (hd : qS d m s) (hq : enQ V e s m (nI b) d) (hR : rowIs Ln V (e + 2) []) : mTo (mX1_solve F Ln e V) (fun p => p.2.2.fI e 11 = (if cnt (okT d m s b) (2 ^ s) = 0 then (110 : Int32) else 121) ∧ p.2.2.fI e 12 = nI (cnt (okT d m s b) (2 ^ s)) ∧ rowIs p.2.1 p.2.2 (e + 2) (rowS d m s b)) := by
  have p6 : (2 : Nat) ^ s ≤ 2 ^ 6 := Nat.pow_le_pow_right (by decide) hs
  have go : ∀ t k' T Ln (V : mV), t + T = 2 ^ s → t + 2 < k' → enQ V e s m (nI b) d → rowIs Ln V (e + 2) (if ftN (okT d m s b) T < T then rwL (trG (ftN (okT d m s b) T) s) s else []) → mTo (mX1_solve_go F k' 0 Ln e (nI s) (nI (cnt (okT d m s b) T)) (nI T) V) (fun p => p.2.2.fI e 11 = (if cnt (okT d m s b) (2 ^ s) = 0 then (110 : Int32) else 121) ∧ p.2.2.fI e 12 = nI (cnt (okT d m s b) (2 ^ s)) ∧ rowIs p.2.1 p.2.2 (e + 2) (rowS d m s b)) := by
    intro t
    induction t with
    | zero =>
      intro k' T Ln V hT hk' hq hR
      obtain ⟨x, rfl⟩ : ∃ x, k' = x + 1 := ⟨k' - 1, by omega⟩
      have : T = 2 ^ s := by omega
      subst this
      have cn := cnt_n (X := okT d m s b) (2 ^ s)
      have keep : ∀ V3 : mV, V3.rI = V.rI → (∀ k, k ≠ 11 → k ≠ 12 → V3.fI e k = V.fI e k) → (∀ i, i ≠ e → V3.fI i = V.fI i) → enQ V3 e s m (nI b) d ∧ ∀ xs, rowIs Ln V (e + 2) xs → rowIs Ln V3 (e + 2) xs := fun V3 f1 f2 f3 => ⟨⟨by rw [f2 _ (by decide) (by decide)]; exact hq.1, by rw [f2 _ (by decide) (by decide)]; exact hq.2.1, by rw [f2 _ (by decide) (by decide)]; exact hq.2.2.1, fun j hj => by rw [f1]; exact hq.2.2.2 j hj⟩, fun xs h => by
        obtain ⟨a1, a2, a3, a4⟩ := h
        exact ⟨by rw [f3 _ (by omega)]; exact a1, a2, a3, fun i hi => by rw [f1]; exact a4 i hi⟩⟩
      rw [mX1_solve_go, if_pos rfl]
      unfold mX1_solve_b0
      rw [nb_one (by omega)]
      refine mTo.le rfl rfl (by omega) (by omega) (fun _ => mTo.le (b := 0) rfl rfl (by omega) (by omega) (fun z => ?_) (fun z => ?_)) (fun z => by omega)
      · have z : cnt (okT d m s b) (2 ^ s) = 0 := by omega
        refine mTo.W T_tell (fun a V3 _ q => ?_)
        obtain ⟨t1, t2, t3, t4, _, t5⟩ := q
        have t1 : V3.fI e 11 = (if (0 : Int32) = 0 then (110 : Int32) else 121) := t1
        have t2 : V3.fI e 12 = _ := t2
        obtain ⟨k1, k2⟩ := keep V3 t4 t3 t5
        rw [if_neg (by rw [ftN_cnt.mp z]; exact Nat.lt_irrefl _)] at hR
        rw [if_pos (show nI (cnt (okT d m s b) (2 ^ s)) = 0 by rw [z]; rfl)]
        obtain ⟨p, e2, r⟩ := T_goThrough (F := F) (e := e) (r := e + 2) (by omega) he ⟨by omega, by omega, by omega, by omega, by omega⟩ (by omega) hk hs h0 hm hb hd (okT_no z) k1 (k2 _ hR)
        have fr2 := (NX1_goThrough (v := p.1) (Ln1 := p.2.1) (V1 := p.2.2) e2).1
        have fe : p.2.2.fI e = V3.fI e := (fr2.1 e (by unfold wX1_goThrough; omega)).1
        refine mTo.A (Q := fun p => rowIs p.2.1 p.2.2 (e + 2) (gtL d m b 129 1)) ⟨p, e2, r⟩ (fun a L4 V4 h4 q' => mTo.ret ?_)
        rw [e2] at h4
        cases h4
        refine ⟨?_, ?_, ?_⟩
        · rw [fe, t1, if_pos rfl, if_pos z]
        · rw [fe, t2]
        · unfold rowS
          rw [if_pos z]
          exact q'
      · have z : cnt (okT d m s b) (2 ^ s) ≠ 0 := by omega
        refine mTo.W T_tell (fun a V3 _ q => ?_)
        obtain ⟨t1, t2, t3, t4, _, t5⟩ := q
        have t1 : V3.fI e 11 = (if (1 : Int32) = 0 then (110 : Int32) else 121) := t1
        have t2 : V3.fI e 12 = _ := t2
        obtain ⟨k1, k2⟩ := keep V3 t4 t3 t5
        have lt : ftN (okT d m s b) (2 ^ s) < 2 ^ s := by
          have := (ftN_spec (X := okT d m s b) (2 ^ s)).2.2
          rcases Nat.lt_or_ge (ftN (okT d m s b) (2 ^ s)) (2 ^ s) with y | y
          · exact y
          · exact absurd (ftN_cnt.mpr (by omega)) z
        rw [if_pos lt] at hR
        rw [if_neg (nI_ne0 (by omega) (by omega))]
        refine mTo.ret ⟨?_, ?_, ?_⟩
        · rw [t1, if_neg (by decide), if_neg z]
        · rw [t2]
        · unfold rowS
          rw [if_neg z]
          exact k2 _ hR
    | succ t ih =>
      intro k' T Ln V hT hk' hq hR
      obtain ⟨x, rfl⟩ : ∃ x, k' = x + 1 := ⟨k' - 1, by omega⟩
      have cn := cnt_n (X := okT d m s b) T
      rw [mX1_solve_go, if_pos rfl]
      unfold mX1_solve_b0
      rw [nb_one (by omega)]
      refine mTo.le rfl rfl (by omega) (by omega) (fun z => by omega) (fun _ => ?_)
      obtain ⟨p, e1, q1, q2⟩ := T_isFulfilled (F := F) (T := T) (by omega) he hs h0 hm hb hd hq (by omega)
      refine mTo.W (Q := fun p => ((p.1 = 0 ∨ p.1 = 1) ∧ (p.1 ≠ 0 ↔ okB d m s b (2 ^ s + T) = true)) ∧ mAv (wX1_isFulfilled e) V p.2) ⟨p, e1, q1, q2⟩ (fun a V1 _ q => ?_)
      obtain ⟨g1, g2⟩ := q
      have g1 : (a = 0 ∨ a = 1) ∧ (a ≠ 0 ↔ okT d m s b T = true) := g1
      have g2 : mAv (wX1_isFulfilled e) V V1 := g2
      have hq1 := hq.mv g2 (by unfold wX1_isFulfilled; omega) (by unfold wX1_isFulfilled; omega)
      have hR1 := hR.mv g2 (by unfold wX1_isFulfilled; omega) (by unfold wX1_isFulfilled; omega)
      have g := ih x (T + 1)
      rw [cnt, ftN] at g
      refine mTo.tf g1 (fun z => mTo.lt ?_) (fun z => mTo.eqI (b := 0) rfl rfl (by omega) (by omega) (fun c => ?_) (fun c => mTo.lt (mTo.lt ?_)))
      · rw [show (if okT d m s b T = true then 1 else 0) = 0 from if_neg z, Nat.add_zero] at g
        rw [nI_1]
        refine g Ln V1 (by omega) (by omega) hq1 ?_
        by_cases y : ftN (okT d m s b) T < T
        · rw [if_pos y] at hR1 ⊢
          rw [if_pos (by omega)]
          exact hR1
        · rw [if_neg y] at hR1 ⊢
          rw [if_neg z, if_neg (Nat.lt_irrefl _)]
          exact hR1
      · have y : ¬ ftN (okT d m s b) T < T := by rw [ftN_cnt.mp c]; exact Nat.lt_irrefl _
        rw [if_neg y] at hR1
        rw [if_neg y, if_pos z, if_pos z] at g
        obtain ⟨p3, e3, r1, r2⟩ := T_writeTruths (F := F) (T := T) (by omega) hk hs h0 (by omega) hR1
        refine mTo.A (Q := fun p => rowIs p.2.1 p.2.2 (e + 2) (rwL (trG T s) s) ∧ mAv (wX1_writeTruths (e + 2)) V1 p.2.2) ⟨p3, e3, r1, r2⟩ (fun a L2 V2 _ q => mTo.lt (mTo.lt ?_))
        obtain ⟨h1, h2⟩ := q
        have h2 : mAv (wX1_writeTruths (e + 2)) V1 V2 := h2
        rw [nI_1, nI_1]
        refine g L2 V2 (by omega) (by omega) (hq1.mv h2 (by unfold wX1_writeTruths; omega) (by unfold wX1_writeTruths; omega)) ?_
        rw [if_pos (Nat.lt_succ_self T)]
        exact h1
      · have y : ftN (okT d m s b) T < T := by
          have := (ftN_spec (X := okT d m s b) T).2.2
          rcases Nat.lt_or_ge (ftN (okT d m s b) T) T with w | w
          · exact w
          · exact absurd (ftN_cnt.mpr (by omega)) c
        rw [if_pos y] at hR1
        rw [show (if okT d m s b T = true then 1 else 0) = 1 from if_pos z, if_pos y] at g
        rw [nI_1, nI_1]
        refine g Ln V1 (by omega) (by omega) hq1 ?_
        rw [if_pos (by omega)]
        exact hR1
  unfold mX1_solve mX1_solve_s
  refine mTo.lt ?_
  rw [hq.1]
  exact go (2 ^ s) F 0 Ln V (by omega) (by omega) hq hR
theorem rowS_no {d : Nat → Int32} {m s b : Nat} (hs : s ≤ 6) (h0 : 0 < s) (hm : m ≤ 12) (h : cnt (okT d m s b) (2 ^ s) = 0) : treeOK d m s b (rowS d m s b) := by
  unfold rowS
  rw [if_pos h]
  have r1 := nd_rem1 s (by omega) h0
  have p0 : (2 : Nat) ^ 1 ≤ 2 ^ (s + 1) := Nat.pow_le_pow_right (by decide) (by omega)
  obtain ⟨a, c⟩ := gt_run hs hm (okT_no h) 129 1 [] (by omega) (by omega)
  exact ⟨a, c⟩
theorem rowS_yes {d : Nat → Int32} {m s b : Nat} (hs : s ≤ 6) (h0 : 0 < s) (h : cnt (okT d m s b) (2 ^ s) ≠ 0) : truOK d m s b (rowS d m s b) := by
  unfold rowS
  rw [if_neg h]
  obtain ⟨f1, f2, f3⟩ := ftN_spec (X := okT d m s b) (2 ^ s)
  have lt : ftN (okT d m s b) (2 ^ s) < 2 ^ s := by
    rcases Nat.lt_or_ge (ftN (okT d m s b) (2 ^ s)) (2 ^ s) with y | y
    · exact y
    · exact absurd (ftN_cnt.mpr (by omega)) h
  have ok := okB_iff.mp (f1 lt)
  generalize ftN (okT d m s b) (2 ^ s) = T at *
  have px : ∀ i, i < s → pX (rwL (trG T s) s) i = trG T s i := fun i hi => pX_eq (rwL_at s hi) (by unfold trG; by_cases z : T.testBit (s - 1 - i) = true <;> simp [z])
  have t1 : ∀ i, trG T s i ≤ 1 := fun i => by
    unfold trG
    by_cases z : T.testBit (s - 1 - i) = true
    · rw [if_pos z]
      omega
    · rw [if_neg z]
      omega
  have eq : ∀ j, j ≤ s → trB (rwL (trG T s) s) j = orF T s j := fun j => by
    induction j with
    | zero => exact fun _ => rfl
    | succ j ih =>
      intro hj
      rw [trB, orF, ih (by omega), px j (by omega)]
      unfold trG
      by_cases z : T.testBit (s - 1 - j) = true
      · rw [if_pos z, if_pos z, Nat.one_mul]
      · rw [if_neg z, if_neg z, Nat.zero_mul, Nat.or_zero]
  refine ⟨⟨rwL_len s, fun i hi => ?_⟩, ?_, fun i hi => ?_⟩
  · rw [rwL_len] at hi
    have := t1 i
    exact ⟨_, by omega, rwL_at s hi⟩
  · rw [eq s (Nat.le_refl _), orF_on hs lt]
    exact ok.1
  · rw [eq s (Nat.le_refl _), orF_on hs lt]
    exact ok.2 i hi
end
