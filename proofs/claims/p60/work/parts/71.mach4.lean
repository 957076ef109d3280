/-! THE PURE PART, machines: the word that tells; the solver, the whole. -/
section
def wlL (Z O Fi : Nat → Nat) : Nat → Nat → Nat → List Int32
  | 0, _, _ => []
  | k + 1, a, c => if tn Z O Fi 9 (Z a) (Z c) = k + 1 then nI 0 :: wlL Z O Fi k (Z a) (Z c) else nI 1 :: wlL Z O Fi k (O a) (O c)
theorem wlk_cons {Z O : Nat → Nat} {x : Int32} {xs : List Int32} {a : Nat} : ∀ j, wlk Z O (x :: xs) a (j + 1) = wlk Z O xs (if x = 0 then Z a else O a) j
  | 0 => rfl
  | j + 1 => by
    rw [wlk, wlk_cons j, wlk]
    rfl
theorem wlL_ok {Z O Fi : Nat → Nat} : ∀ k a c, k < 9 → rl Z O Fi k a c = true → rl Z O Fi (k + 1) a c = false → (wlL Z O Fi k a c).length = k ∧ inRow (wlL Z O Fi k a c) 2 ∧ Fi (wlk Z O (wlL Z O Fi k a c) a k) ≠ Fi (wlk Z O (wlL Z O Fi k a c) c k)
  | 0, a, c, _, _, h => by
    refine ⟨rfl, fun i hi => absurd hi (Nat.not_lt_zero i), fun e => ?_⟩
    have e : Fi a = Fi c := e
    rw [rl, decide_eq_true e] at h
    exact absurd (show true = false from h) (by decide)
  | k + 1, a, c, hk, h1, h2 => by
    obtain ⟨r1, r2, r3⟩ := rl_iff.mp h1
    have go : ∀ (x : Nat) (a' c' : Nat), x < 2 → (if nI x = 0 then Z a else O a) = a' → (if nI x = 0 then Z c else O c) = c' → rl Z O Fi k a' c' = true → rl Z O Fi (k + 1) a' c' = false → (nI x :: wlL Z O Fi k a' c').length = k + 1 ∧ inRow (nI x :: wlL Z O Fi k a' c') 2 ∧ Fi (wlk Z O (nI x :: wlL Z O Fi k a' c') a (k + 1)) ≠ Fi (wlk Z O (nI x :: wlL Z O Fi k a' c') c (k + 1)) := fun x a' c' hx ea ec g1 g2 => by
      obtain ⟨i1, i2, i3⟩ := wlL_ok k a' c' (by omega) g1 g2
      refine ⟨by rw [List.length_cons, i1], fun i hi => ?_, ?_⟩
      · cases i with
        | zero => exact ⟨x, hx, rfl⟩
        | succ i =>
          rw [List.length_cons] at hi
          exact i2 i (by omega)
      · rw [wlk_cons, wlk_cons, ea, ec]
        exact i3
    rw [wlL]
    by_cases e : tn Z O Fi 9 (Z a) (Z c) = k + 1
    · rw [if_pos e]
      have e2 := (tn_eq (by omega)).mp e
      exact go 0 _ _ (by decide) (if_pos rfl) (if_pos rfl) e2.1 e2.2
    · rw [if_neg e]
      have z : rl Z O Fi (k + 1) (Z a) (Z c) = true := by
        cases y : rl Z O Fi (k + 1) (Z a) (Z c) with
        | true => rfl
        | false => exact absurd ((tn_eq (by omega)).mpr ⟨r2, y⟩) e
      have o : rl Z O Fi (k + 1) (O a) (O c) = false := by
        cases y : rl Z O Fi (k + 1) (O a) (O c) with
        | false => rfl
        | true => rw [rl_iff.mpr ⟨r1, z, y⟩] at h2; exact absurd h2 (by decide)
      exact go 1 _ _ (by decide) (if_neg (by decide)) (if_neg (by decide)) r3 o
theorem T_writeLetters_go {F r s : Nat} {Z O Fi : Nat → Nat} (hk : mK r = 9) (hr : 256 ≤ r) (hs : s ≤ 8) (hZ : ∀ i, i < s → Z i < s ∧ O i < s ∧ Fi i ≤ 1) : ∀ k' t a c acc Ln (V : mV), t * 2 + 1 ≤ k' → t ≤ 9 → a < s → c < s → acc.length + t ≤ 20 → mcS V s Z O Fi → ltS V s (tn Z O Fi 9) → rowIs Ln V r acc → mTo (mX6_writeLetters_go F k' 0 Ln r (nI a) (nI c) (nI t) 0 0 0 V) (fun p => rowIs p.2.1 p.2.2 r (acc ++ wlL Z O Fi t a c)) := by
  intro k'
  induction k' using Nat.strongRecOn with
  | ind k' ih =>
    intro t a c acc Ln V h1 h2 ha hc hn hS hT hR
    obtain ⟨x, rfl⟩ : ∃ x, k' = x + 1 := ⟨k' - 1, by omega⟩
    obtain ⟨z1, z2, _⟩ := hZ a ha
    obtain ⟨y1, y2, _⟩ := hZ c hc
    obtain ⟨u1, u2, _⟩ := hS.2 a ha
    obtain ⟨v1, v2, _⟩ := hS.2 c hc
    have ca : (nI a).toNatClampNeg = a := nI_clamp (by omega)
    have cc : (nI c).toNatClampNeg = c := nI_clamp (by omega)
    rw [mX6_writeLetters_go, if_pos rfl]
    unfold mX6_writeLetters_b0
    refine mTo.le (b := 0) rfl rfl (by omega) (by omega) (fun h => mTo.ret ?_) (fun h => ?_)
    · have : t = 0 := by omega
      subst this
      show rowIs Ln V r (acc ++ [])
      rw [List.append_nil]
      exact hR
    · obtain ⟨k, rfl⟩ : ∃ k, t = k + 1 := ⟨t - 1, by omega⟩
      obtain ⟨y, rfl⟩ : ∃ y, x = y + 1 := ⟨x - 1, by omega⟩
      have tl := tn_le (Z := Z) (O := O) (Fi := Fi) 9 (a := Z a) (b := Z c)
      rw [show V.rI 84 (nI a).toNatClampNeg = nI (Z a) by rw [ca, u1], show V.rI 84 (nI c).toNatClampNeg = nI (Z c) by rw [cc, v1]]
      refine mTo.ix rfl (by omega) (by omega) (mTo.ix rfl (by omega) (by omega) (mTo.so (T_lettersAt hs z1 y1 hT) ?_))
      have fin : ∀ (w a' c' : Nat) L1 V1, a' < s → c' < s → rowIs L1 V1 r (acc ++ [nI w]) → mAv (wX9_add r) V V1 → wlL Z O Fi (k + 1) a c = nI w :: wlL Z O Fi k a' c' → mTo (mX6_writeLetters_go F y 0 L1 r (nI a') (nI c') (nI k) 0 0 0 V1) (fun p => rowIs p.2.1 p.2.2 r (acc ++ wlL Z O Fi (k + 1) a c)) := fun w a' c' L1 V1 ha' hc' hR1 fr e => by
        have g := ih y (by omega) k a' c' (acc ++ [nI w]) L1 V1 (by omega) (by omega) ha' hc' (by rw [List.length_append]; show acc.length + 1 + k ≤ 20; omega) ⟨by rw [(fr.1 8 (by unfold wX9_add; omega)).1]; exact hS.1, fun i hi => by rw [(fr.1 84 (by unfold wX9_add; omega)).2.2.1, (fr.1 85 (by unfold wX9_add; omega)).2.2.1, (fr.1 86 (by unfold wX9_add; omega)).2.2.1]; exact hS.2 i hi⟩ (fun i j hi hj => by rw [(fr.1 87 (by unfold wX9_add; omega)).2.2.1]; exact hT i j hi hj) hR1
        rw [e]
        rw [List.append_assoc] at g
        exact g
      by_cases e : tn Z O Fi 9 (Z a) (Z c) = k + 1
      · rw [if_pos (show nI (tn Z O Fi 9 (Z a) (Z c)) - 1 = nI (k + 1) - 1 by rw [e])]
        rw [mX6_writeLetters_go, if_neg (by decide), if_pos rfl]
        unfold mX6_writeLetters_b1
        refine mTo.A (T_radd (v := nI 0) hk hR (by omega)) (fun _ L1 V1 _ q => ?_)
        obtain ⟨q1, q2, _⟩ := q
        have q2 : mAv (wX9_add r) V V1 := q2
        have f84 : V1.rI 84 = V.rI 84 := (q2.1 84 (by unfold wX9_add; omega)).2.2.1
        rw [if_neg (by decide)]
        refine mTo.ix rfl (by omega) (by omega) (mTo.lt ?_)
        rw [if_neg (by decide)]
        refine mTo.ix rfl (by omega) (by omega) (mTo.lt (mTo.lt ?_))
        rw [f84, ca, cc, u1, v1, pk_m1]
        exact fin 0 _ _ L1 V1 z1 y1 q1 q2 (by rw [wlL, if_pos e])
      · rw [if_neg (show ¬ nI (tn Z O Fi 9 (Z a) (Z c)) - 1 = nI (k + 1) - 1 from fun z => e ((nI_m1_eq (by omega) (by omega)).mp z))]
        rw [mX6_writeLetters_go, if_neg (by decide), if_pos rfl]
        unfold mX6_writeLetters_b1
        refine mTo.A (T_radd (v := nI 1) hk hR (by omega)) (fun _ L1 V1 _ q => ?_)
        obtain ⟨q1, q2, _⟩ := q
        have q2 : mAv (wX9_add r) V V1 := q2
        have f85 : V1.rI 85 = V.rI 85 := (q2.1 85 (by unfold wX9_add; omega)).2.2.1
        rw [if_pos rfl]
        refine mTo.ix rfl (by omega) (by omega) (mTo.lt ?_)
        rw [if_pos rfl]
        refine mTo.ix rfl (by omega) (by omega) (mTo.lt (mTo.lt ?_))
        rw [f85, ca, cc, u2, v2, pk_m1]
        exact fin 1 _ _ L1 V1 z2 y2 q1 q2 (by rw [wlL, if_neg e])
/-- the kept row of machines -/
def rowA (s : Nat) (Z O Fi : Nat → Nat) (q : Nat) : List Int32 := if tn Z O Fi 9 0 q = 0 then rwL (lk Z O Fi) s else wlL Z O Fi (tn Z O Fi 9 0 q - 1) 0 q
theorem T_solveMachines {F e s m b : Nat} {Ln : Nat → Nat} {d : Nat → Int32} {Z O Fi : Nat → Nat} {V : mV} (hF : 2 ^ 22 ≤ F) (he : 256 ≤ e) (he2 : e < 1024) (hk : mK (e + 2) = 9) (hs : s ≤ 8) (h0 : 0 < s) (hm : m ≤ 8) (hb : b < 2 ^ 20) (hd : qA d m s Z O Fi) (hq : enQ V e s m (nI b) d) (hr : rowIs Ln V (e + 2) []) : mTo (mX6_solveMachines F Ln e V) (fun p => p.2.2.fI e 11 = (if tn Z O Fi 9 0 (qN s b) = 0 then (121 : Int32) else 110) ∧ p.2.2.fI e 12 = nI (cnt (fun a => decide (lk Z O Fi a = a)) s) ∧ rowIs p.2.1 p.2.2 (e + 2) (rowA s Z O Fi (qN s b))) := by
  have hZ : ∀ i, i < s → Z i < s ∧ O i < s ∧ Fi i ≤ 1 := fun i hi => ⟨(hd i hi).2.2.1, (hd i hi).2.2.2.1, (hd i hi).2.2.2.2⟩
  have ql := qN_lt (s := s) (b := b) h0
  have lk8 : ∀ a, a < s → lk Z O Fi a < s := fun a ha => by
    have := (lk_spec (Z := Z) (O := O) (Fi := Fi) a).1
    omega
  -- the rows of classes
  have rows : ∀ k' j Ln (V : mV), s < j + k' → j ≤ s → mcS V s Z O Fi → ltS V s (tn Z O Fi 9) → rowIs Ln V (e + 2) (rwL (lk Z O Fi) j) → mTo (mX6_solveMachines_go F k' 1 Ln e 0 0 0 (nI j) V) (fun p => rowIs p.2.1 p.2.2 (e + 2) (rwL (lk Z O Fi) s)) := by
    intro k'
    induction k' with
    | zero => intro j Ln V h1 h2; omega
    | succ k ih =>
      intro j Ln V h1 h2 hS hT hR
      rw [mX6_solveMachines_go, if_neg (by decide), if_pos rfl]
      unfold mX6_solveMachines_b1
      refine mTo.le hS.1 rfl (by omega) (by omega) (fun h => mTo.ret ?_) (fun h => mTo.N (T_lowestLike (by omega) hs h hT) (fun v _ hv => ?_))
      · have : j = s := by omega
        subst this
        exact hR
      · subst hv
        refine mTo.A (T_radd hk hR (by rw [rwL_len]; omega)) (fun _ L1 V1 _ q => mTo.lt ?_)
        obtain ⟨q1, fr, _⟩ := q
        have fr : mAv (wX9_add (e + 2)) V V1 := fr
        rw [nI_1]
        exact ih (j + 1) L1 V1 (by omega) (by omega) ⟨by rw [(fr.1 8 (by unfold wX9_add; omega)).1]; exact hS.1, fun i hi => by rw [(fr.1 84 (by unfold wX9_add; omega)).2.2.1, (fr.1 85 (by unfold wX9_add; omega)).2.2.1, (fr.1 86 (by unfold wX9_add; omega)).2.2.1]; exact hS.2 i hi⟩ (fun i j hi hj => by rw [(fr.1 87 (by unfold wX9_add; omega)).2.2.1]; exact hT i j hi hj) q1
  have count : ∀ k' j (V : mV), s < j + k' → j ≤ s → 2 ^ 12 ≤ k' + j → mcS V s Z O Fi → ltS V s (tn Z O Fi 9) → rowIs Ln V (e + 2) [] → mTo (mX6_solveMachines_go F k' 0 Ln e (nI (qN s b)) (nI (cnt (fun a => decide (lk Z O Fi a = a)) j)) (nI j) 0 V) (fun p => p.2.2.fI e 11 = (if tn Z O Fi 9 0 (qN s b) = 0 then (121 : Int32) else 110) ∧ p.2.2.fI e 12 = nI (cnt (fun a => decide (lk Z O Fi a = a)) s) ∧ rowIs p.2.1 p.2.2 (e + 2) (rowA s Z O Fi (qN s b))) := by
    intro k'
    induction k' with
    | zero => intro j V h1 h2; omega
    | succ k ih =>
      intro j V h1 h2 h3 hS hT hR
      rw [mX6_solveMachines_go, if_pos rfl]
      unfold mX6_solveMachines_b0
      have tl := tn_le (Z := Z) (O := O) (Fi := Fi) 9 (a := 0) (b := qN s b)
      refine mTo.le hS.1 rfl (by omega) (by omega) (fun h => mTo.so (T_lettersAt hs h0 ql hT) ?_) (fun h => mTo.N (T_lowestLike (by omega) hs h hT) (fun v _ hv => ?_))
      · have : j = s := by omega
        subst this
        have keep : ∀ V3 : mV, V3.rI = V.rI → (∀ i, i ≠ e → V3.fI i = V.fI i) → mcS V3 j Z O Fi ∧ ltS V3 j (tn Z O Fi 9) ∧ rowIs Ln V3 (e + 2) [] := fun V3 f1 f2 => by
          obtain ⟨a1, a2, a3, a4⟩ := hR
          exact ⟨⟨by rw [f2 8 (by omega)]; exact hS.1, fun i hi => by rw [f1]; exact hS.2 i hi⟩, fun x y hx hy => by rw [f1]; exact hT x y hx hy, by rw [f2 _ (by omega)]; exact a1, a2, a3, fun i hi => by rw [f1]; exact a4 i hi⟩
        by_cases c : tn Z O Fi 9 0 (qN j b) = 0
        · rw [if_neg (fun z => (nI_m1_neg (by omega)).mp z c)]
          refine mTo.W T_tell (fun a V3 _ q => ?_)
          obtain ⟨t1, t2, _, t4, _, t5⟩ := q
          have t1 : V3.fI e 11 = (if (1 : Int32) = 0 then (110 : Int32) else 121) := t1
          have t2 : V3.fI e 12 = _ := t2
          obtain ⟨k1, k2, k3⟩ := keep V3 t4 t5
          obtain ⟨p, e2, r⟩ := rows k 0 Ln V3 (by omega) (Nat.zero_le _) k1 k2 k3
          have fr2 := ((NX6_solveMachines_go (v := p.1) (Ln1 := p.2.1) (V1 := p.2.2) k).2 _ _ _ _ e2).1
          have fe : p.2.2.fI e = V3.fI e := (fr2.1 e (by unfold wX6_solveMachines_1; omega)).1
          refine ⟨p, e2, ?_, ?_, ?_⟩
          · rw [fe, t1, if_neg (by decide), if_pos c]
          · rw [fe, t2]
          · unfold rowA
            rw [if_pos c]
            exact r
        · rw [if_pos ((nI_m1_neg (by omega)).mpr c)]
          refine mTo.W T_tell (fun a V3 _ q => ?_)
          obtain ⟨t1, t2, _, t4, _, t5⟩ := q
          have t1 : V3.fI e 11 = (if (0 : Int32) = 0 then (110 : Int32) else 121) := t1
          have t2 : V3.fI e 12 = _ := t2
          obtain ⟨k1, k2, k3⟩ := keep V3 t4 t5
          obtain ⟨t, ht⟩ : ∃ t, tn Z O Fi 9 0 (qN j b) = t + 1 := ⟨tn Z O Fi 9 0 (qN j b) - 1, by omega⟩
          have w : mTo (mX6_writeLetters F Ln (nI (qN j b)) (e + 2) V3) (fun p => rowIs p.2.1 p.2.2 (e + 2) (wlL Z O Fi t 0 (qN j b))) := by
            unfold mX6_writeLetters mX6_writeLetters_s
            refine mTo.so (T_lettersAt hs h0 ql k2) ?_
            rw [ht, nI_pred]
            exact T_writeLetters_go (F := F) hk (by omega) hs hZ F t 0 (qN j b) [] Ln V3 (by omega) (by omega) h0 ql (by show 0 + t ≤ 20; omega) k1 k2 k3
          obtain ⟨p, e2, r⟩ := w
          have fr2 := (NX6_writeLetters (v := p.1) (Ln1 := p.2.1) (V1 := p.2.2) e2).1
          have fe : p.2.2.fI e = V3.fI e := (fr2.1 e (by unfold wX6_writeLetters; omega)).1
          refine mTo.A (Q := fun p => rowIs p.2.1 p.2.2 (e + 2) (wlL Z O Fi t 0 (qN j b))) ⟨p, e2, r⟩ (fun a L4 V4 h4 q' => mTo.ret ?_)
          rw [e2] at h4
          cases h4
          refine ⟨?_, ?_, ?_⟩
          · rw [fe, t1, if_pos rfl, if_neg c]
          · rw [fe, t2]
          · unfold rowA
            rw [if_neg c, ht]
            exact q'
      · subst hv
        have g := ih (j + 1) V (by omega) (by omega) (by omega) hS hT hR
        have cn := cnt_n (X := fun a => decide (lk Z O Fi a = a)) j
        have l8 := lk8 j h
        rw [cnt] at g
        refine mTo.eqI rfl rfl (by omega) (by omega) (fun e => mTo.lt (mTo.lt ?_)) (fun e => mTo.lt ?_)
        · rw [if_pos (decide_eq_true e)] at g
          rw [nI_1, nI_1]
          exact g
        · rw [if_neg (by rw [decide_eq_true_eq]; exact e), Nat.add_zero] at g
          rw [nI_1]
          exact g
  unfold mX6_solveMachines mX6_solveMachines_s
  refine mTo.W (T_findLetters hF he hs hm hd hq) (fun a V1 _ q => ?_)
  obtain ⟨q1, q2, q3⟩ := q
  have q3 : mAv (wX6_findLetters e) V V1 := q3
  have hq1 := hq.mv q3 (by unfold wX6_findLetters; omega) (by unfold wX6_findLetters; omega)
  have hr1 := hr.mv q3 (by unfold wX6_findLetters; omega) (by unfold wX6_findLetters; omega)
  refine mTo.so (T_nodeAsked hs h0 hb hq1) ?_
  exact count F 0 V1 (by omega) (Nat.zero_le _) (by omega) q1 q2 hr1
theorem rowA_yes {d : Nat → Int32} {m s q : Nat} {Z O Fi : Nat → Nat} (hs : s ≤ 8) (h0 : 0 < s) (hq : q < s) (hd : qA d m s Z O Fi) (h : tn Z O Fi 9 0 q = 0) : likeOK s Z O Fi q (rowA s Z O Fi q) := by
  have hZ : ∀ i, i < s → Z i < s ∧ O i < s := fun i hi => ⟨(hd i hi).2.2.1, (hd i hi).2.2.2.1⟩
  have lk8 : ∀ a, a < s → lk Z O Fi a < s := fun a ha => by
    have := (lk_spec (Z := Z) (O := O) (Fi := Fi) a).1
    omega
  unfold rowA
  rw [if_pos h]
  have px : ∀ a, a < s → pX (rwL (lk Z O Fi) s) a = lk Z O Fi a := fun a ha => pX_eq (rwL_at s ha) (by have := lk8 a ha; omega)
  have nxt : ∀ a b, a < s → b < s → rl Z O Fi 9 a b = true → Fi a = Fi b ∧ rl Z O Fi 9 (Z a) (Z b) = true ∧ rl Z O Fi 9 (O a) (O b) = true := fun a b ha hb e => rl_iff.mp (rl_9 hs hZ a b ha hb e)
  refine ⟨⟨rwL_len s, fun i hi => ?_⟩, fun a b ha hb e => ?_, fun a b ha hb e => ?_, ?_⟩
  · rw [rwL_len] at hi
    exact ⟨lk Z O Fi i, lk8 i hi, rwL_at s hi⟩
  · rw [px a ha, px b (by omega), lk_eq] at e
    exact (nxt a b ha (by omega) e).1
  · rw [px a ha, px b (by omega), lk_eq] at e
    obtain ⟨_, e2, e3⟩ := nxt a b ha (by omega) e
    rw [px _ (hZ a ha).1, px _ (hZ b (by omega)).1, px _ (hZ a ha).2, px _ (hZ b (by omega)).2]
    exact ⟨lk_eq.mpr e2, lk_eq.mpr e3⟩
  · rw [px 0 h0, px q hq]
    exact lk_eq.mpr ((tn_0 9).mp h)
theorem rowA_no {s q : Nat} {Z O Fi : Nat → Nat} (h : tn Z O Fi 9 0 q ≠ 0) : lettOK Z O Fi q (rowA s Z O Fi q) := by
  unfold rowA
  rw [if_neg h]
  obtain ⟨t, ht⟩ : ∃ t, tn Z O Fi 9 0 q = t + 1 := ⟨tn Z O Fi 9 0 q - 1, by omega⟩
  have tl := tn_le (Z := Z) (O := O) (Fi := Fi) 9 (a := 0) (b := q)
  obtain ⟨e1, e2⟩ := (tn_eq (show t < 9 by omega)).mp ht
  obtain ⟨a, b, c⟩ := wlL_ok t 0 q (by omega) e1 e2
  rw [ht, Nat.add_sub_cancel]
  refine ⟨b, ?_⟩
  rw [a]
  exact c
end
