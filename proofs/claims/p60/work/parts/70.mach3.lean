/-! THE PURE PART, machines: the solver; the kept row is accepted. -/
section
/-- the table of lengths: less 1, so none is -1 -/
def ltS (V : mV) (s : Nat) (t : Nat → Nat → Nat) : Prop := ∀ a b, a < s → b < s → V.rI 87 (8 * a + b) = nI (t a b) - 1
theorem T_lettersAt {F a b s : Nat} {t : Nat → Nat → Nat} {V : mV} (hs : s ≤ 8) (ha : a < s) (hb : b < s) (h : ltS V s t) : mX6_lettersAt F (nI a) (nI b) V = some (nI (t a b) - 1) := by
  unfold mX6_lettersAt
  rw [show (8 : Int32) = nI 8 from rfl, nI_mulC, nI_add, if_neg (nI_in (by omega) (by omega)), nI_clamp (by omega), Nat.mul_comm a 8, h a b ha hb]
theorem nI_m1_eq {x y : Nat} (hx : x < 2 ^ 20) (hy : y < 2 ^ 20) : nI x - 1 = nI y - 1 ↔ x = y := by
  constructor
  · intro h
    have h2 : nI x - 1 + 1 = nI y - 1 + 1 := by rw [h]
    rw [Int32.sub_add_cancel, Int32.sub_add_cancel] at h2
    exact (nI_eq (by omega) (by omega)).mp h2
  · intro h
    rw [h]
theorem nI_m1_neg {x : Nat} (hx : x < 2 ^ 20) : 0 ≤ nI x - 1 ↔ x ≠ 0 := by
  cases x with
  | zero => exact ⟨fun h => absurd h (by decide), fun h => absurd rfl h⟩
  | succ x =>
    rw [nI_pred]
    exact ⟨fun _ => Nat.succ_ne_zero _, fun _ => nI_pos' (by omega)⟩
/-- in the round K, ahead of the pair (a, b) -/
def tnM (Z O Fi : Nat → Nat) (K a b x y : Nat) : Nat := if x < a ∨ (x = a ∧ y < b) then tn Z O Fi (K + 1) x y else tn Z O Fi K x y
theorem T_isToldBy {F s K a b i j : Nat} {Z O Fi : Nat → Nat} {V : mV} (hs : s ≤ 8) (hK : K ≤ 8) (hZ : ∀ i, i < s → Z i < s ∧ O i < s ∧ Fi i ≤ 1) (hi : i < s) (hj : j < s) (hS : mcS V s Z O Fi) (hT : ltS V s (tnM Z O Fi K a b)) (h0 : rl Z O Fi K i j = true) : mTo (mX6_isToldBy F (nI i) (nI j) (nI K) V) (fun w => (w = 0 ∨ w = 1) ∧ (w ≠ 0 ↔ rl Z O Fi (K + 1) i j = false)) := by
  obtain ⟨z1, z2, z3⟩ := hZ i hi
  obtain ⟨y1, y2, y3⟩ := hZ j hj
  obtain ⟨u1, u2, u3⟩ := hS.2 i hi
  obtain ⟨v1, v2, v3⟩ := hS.2 j hj
  have ci : (nI i).toNatClampNeg = i := nI_clamp (by omega)
  have cj : (nI j).toNatClampNeg = j := nI_clamp (by omega)
  unfold mX6_isToldBy
  cases K with
  | zero =>
    rw [if_pos (show nI 0 = 0 from rfl)]
    refine mTo.ix rfl (by omega) (by omega) (mTo.ix rfl (by omega) (by omega) (mTo.eqI (by rw [ci, u3]) (by rw [cj, v3]) (by omega) (by omega) (fun e => mTo.ret ⟨Or.inl rfl, fun z => absurd rfl z, fun z => ?_⟩) (fun e => mTo.ret ⟨Or.inr rfl, fun _ => ?_, fun _ => by decide⟩)))
    · rw [rl, decide_eq_true e] at z
      exact absurd (show true = false from z) (by decide)
    · rw [rl, decide_eq_false e]
      rfl
  | succ k =>
    obtain ⟨r1, r2, r3⟩ := rl_iff.mp h0
    have key : ∀ x y, rl Z O Fi k x y = true → (tnM Z O Fi (k + 1) a b x y = k + 1 ↔ rl Z O Fi (k + 1) x y = false) := fun x y hxy => by
      unfold tnM
      by_cases c : x < a ∨ (x = a ∧ y < b)
      · rw [if_pos c, tn_eq (by omega)]
        exact ⟨fun z => z.2, fun z => ⟨hxy, z⟩⟩
      · rw [if_neg c, tn_eq (by omega)]
        exact ⟨fun z => z.2, fun z => ⟨hxy, z⟩⟩
    have bd : ∀ x y, tnM Z O Fi (k + 1) a b x y ≤ k + 2 := fun x y => by
      unfold tnM
      have b1 := tn_le (Z := Z) (O := O) (Fi := Fi) (k + 1 + 1) (a := x) (b := y)
      have b2 := tn_le (Z := Z) (O := O) (Fi := Fi) (k + 1) (a := x) (b := y)
      by_cases c : x < a ∨ (x = a ∧ y < b)
      · rw [if_pos c]
        omega
      · rw [if_neg c]
        omega
    have b1 := bd (Z i) (Z j)
    have b2 := bd (O i) (O j)
    rw [if_neg (nI_ne0 (by omega) (by omega))]
    rw [show V.rI 84 (nI i).toNatClampNeg = nI (Z i) by rw [ci, u1], show V.rI 84 (nI j).toNatClampNeg = nI (Z j) by rw [cj, v1], show V.rI 85 (nI i).toNatClampNeg = nI (O i) by rw [ci, u2], show V.rI 85 (nI j).toNatClampNeg = nI (O j) by rw [cj, v2]]
    have fin : ∀ {w : Int32} {C : Prop}, (w = 0 ∨ w = 1) ∧ (w ≠ 0 ↔ C) → (rl Z O Fi (k + 1 + 1) i j = false ↔ C) → (w = 0 ∨ w = 1) ∧ (w ≠ 0 ↔ rl Z O Fi (k + 1 + 1) i j = false) := fun a b => ⟨a.1, a.2.trans b.symm⟩
    have eqv : rl Z O Fi (k + 1 + 1) i j = false ↔ rl Z O Fi (k + 1) (Z i) (Z j) = false ∨ rl Z O Fi (k + 1) (O i) (O j) = false := by
      rw [show rl Z O Fi (k + 1 + 1) i j = (decide (Fi i = Fi j) && rl Z O Fi (k + 1) (Z i) (Z j) && rl Z O Fi (k + 1) (O i) (O j)) from rfl, decide_eq_true r1]
      cases rl Z O Fi (k + 1) (Z i) (Z j) <;> cases rl Z O Fi (k + 1) (O i) (O j) <;> decide
    refine mTo.ix rfl (by omega) (by omega) (mTo.ix rfl (by omega) (by omega) (mTo.so (T_lettersAt hs z1 y1 hT) ?_))
    by_cases e1 : tnM Z O Fi (k + 1) a b (Z i) (Z j) = k + 1
    · rw [if_pos ((nI_m1_eq (by omega) (by omega)).mpr e1)]
      exact mTo.ret ⟨Or.inr rfl, fun _ => eqv.mpr (Or.inl ((key _ _ r2).mp e1)), fun _ => by decide⟩
    · rw [if_neg (fun z => e1 ((nI_m1_eq (by omega) (by omega)).mp z))]
      refine mTo.ix rfl (by omega) (by omega) (mTo.ix rfl (by omega) (by omega) (mTo.so (T_lettersAt hs z2 y2 hT) ?_))
      by_cases e2 : tnM Z O Fi (k + 1) a b (O i) (O j) = k + 1
      · rw [if_pos ((nI_m1_eq (by omega) (by omega)).mpr e2)]
        exact mTo.ret ⟨Or.inr rfl, fun _ => eqv.mpr (Or.inr ((key _ _ r3).mp e2)), fun _ => by decide⟩
      · rw [if_neg (fun z => e2 ((nI_m1_eq (by omega) (by omega)).mp z))]
        refine mTo.ret ⟨Or.inl rfl, fun z => absurd rfl z, fun z => ?_⟩
        rcases eqv.mp z with y | y
        · exact absurd ((key _ _ r2).mpr y) e1
        · exact absurd ((key _ _ r3).mpr y) e2
theorem mcS.w {V : mV} {s : Nat} {Z O Fi : Nat → Nat} {x v : Int32} (h : mcS V s Z O Fi) : mcS (mI V 87 x v) s Z O Fi := ⟨h.1, fun i hi => by
  rw [mI_no (by decide), mI_no (by decide), mI_no (by decide)]
  exact h.2 i hi⟩
theorem T_findLetters_go {F s : Nat} {Z O Fi : Nat → Nat} (hs : s ≤ 8) (hZ : ∀ i, i < s → Z i < s ∧ O i < s ∧ Fi i ≤ 1) : ∀ k', (∀ K (V : mV), (9 - K) * 120 + 1 ≤ k' → K ≤ 9 → mcS V s Z O Fi → ltS V s (tn Z O Fi K) → mTo (mX6_findLetters_go F k' 0 (nI K) 0 0 V) (fun p => mcS p.2 s Z O Fi ∧ ltS p.2 s (tn Z O Fi 9))) ∧ (∀ K a (V : mV), (8 - K) * 120 + (s - a) * 12 + 2 ≤ k' → K ≤ 8 → a ≤ s → mcS V s Z O Fi → ltS V s (tnM Z O Fi K a 0) → mTo (mX6_findLetters_go F k' 1 (nI K) (nI a) 0 V) (fun p => mcS p.2 s Z O Fi ∧ ltS p.2 s (tn Z O Fi 9))) ∧ (∀ K a b (V : mV), (8 - K) * 120 + (s - a - 1) * 12 + (s - b) + 4 ≤ k' → K ≤ 8 → a < s → b ≤ s → mcS V s Z O Fi → ltS V s (tnM Z O Fi K a b) → mTo (mX6_findLetters_go F k' 2 (nI K) (nI a) (nI b) V) (fun p => mcS p.2 s Z O Fi ∧ ltS p.2 s (tn Z O Fi 9))) := by
  intro k'
  induction k' with
  | zero => exact ⟨fun K V h => by omega, fun K a V h => by omega, fun K a b V h => by omega⟩
  | succ k ih =>
    obtain ⟨ih0, ih1, ih2⟩ := ih
    refine ⟨fun K V h1 h2 hS hT => ?_, fun K a V h1 h2 h3 hS hT => ?_, fun K a b V h1 h2 h3 h4 hS hT => ?_⟩
    · rw [mX6_findLetters_go, if_pos rfl]
      unfold mX6_findLetters_b0
      refine mTo.ltI (a := 8) rfl rfl (by omega) (by omega) (fun h => mTo.ret ?_) (fun h => ?_)
      · have : K = 9 := by omega
        subst this
        exact ⟨hS, hT⟩
      · refine ih1 K 0 V (by omega) h (Nat.zero_le _) hS (fun x y hx hy => ?_)
        rw [hT x y hx hy]
        unfold tnM
        rw [if_neg (by omega)]
    · rw [mX6_findLetters_go, if_neg (by decide), if_pos rfl]
      unfold mX6_findLetters_b1
      refine mTo.le hS.1 rfl (by omega) (by omega) (fun h => mTo.lt ?_) (fun h => ?_)
      · rw [nI_1]
        refine ih0 (K + 1) V (by omega) (by omega) hS (fun x y hx hy => ?_)
        rw [hT x y hx hy]
        unfold tnM
        rw [if_pos (by omega)]
      · exact ih2 K a 0 V (by omega) h2 h (Nat.zero_le _) hS hT
    · rw [mX6_findLetters_go, if_neg (by decide), if_neg (by decide), if_pos rfl]
      unfold mX6_findLetters_b2
      refine mTo.le hS.1 rfl (by omega) (by omega) (fun h => mTo.lt ?_) (fun h => mTo.so (T_lettersAt hs h3 h hT) ?_)
      · rw [nI_1]
        refine ih1 K (a + 1) V (by omega) h2 (by omega) hS (fun x y hx hy => ?_)
        rw [hT x y hx hy]
        unfold tnM
        by_cases c : x < a ∨ (x = a ∧ y < b)
        · rw [if_pos c, if_pos (by omega)]
        · rw [if_neg c, if_neg (by omega)]
      · have cur : tnM Z O Fi K a b a b = tn Z O Fi K a b := by
          unfold tnM
          rw [if_neg (by omega)]
        have tl := tn_le (Z := Z) (O := O) (Fi := Fi) K (a := a) (b := b)
        have step : ∀ V2 : mV, ltS V2 s (fun x y => if x = a ∧ y = b then tn Z O Fi (K + 1) a b else tnM Z O Fi K a b x y) → ltS V2 s (tnM Z O Fi K a (b + 1)) := fun V2 h2 x y hx hy => by
          rw [h2 x y hx hy]
          congr 2
          unfold tnM
          dsimp only
          by_cases c : x = a ∧ y = b
          · rw [if_pos c, if_pos (by omega), c.1, c.2]
          · rw [if_neg c]
            by_cases c2 : x < a ∨ (x = a ∧ y < b)
            · rw [if_pos c2, if_pos (by omega)]
            · rw [if_neg c2, if_neg (by omega)]
        rw [cur]
        have same : tn Z O Fi (K + 1) a b = tn Z O Fi K a b → ltS V s (tnM Z O Fi K a (b + 1)) := fun e => step V (fun x y hx hy => by
          rw [hT x y hx hy]
          dsimp only
          by_cases c : x = a ∧ y = b
          · rw [if_pos c, e, c.1, c.2, cur]
          · rw [if_neg c])
        by_cases c0 : tn Z O Fi K a b = 0
        · rw [if_neg (fun z => (nI_m1_neg (by omega)).mp z c0)]
          refine mTo.N (T_isToldBy hs h2 hZ h3 h hS hT ((tn_0 K).mp c0)) (fun w _ q => mTo.tf q (fun z => mTo.lt ?_) (fun z => ?_))
          · rw [nI_1]
            refine ih2 K a (b + 1) V (by omega) h2 h3 (by omega) hS (same ?_)
            rw [tn, if_neg (fun y => y c0), if_neg z, c0]
          · rw [show (8 : Int32) = nI 8 from rfl, nI_mulC, nI_add]
            refine mTo.ix rfl (by omega) (by omega) (mTo.lt (mTo.lt ?_))
            rw [nI_1]
            refine ih2 K a (b + 1) _ (by omega) h2 h3 (by omega) hS.w (step _ (fun x y hx hy => ?_))
            rw [mI_at (nI_clamp (by omega))]
            dsimp only
            by_cases c : x = a ∧ y = b
            · rw [if_pos (by omega), if_pos c, tn, if_neg (fun y => y c0), if_pos z, nI_pred]
            · rw [if_neg (by omega), if_neg c, hT x y hx hy]
        · rw [if_pos ((nI_m1_neg (by omega)).mpr c0)]
          refine mTo.lt ?_
          rw [nI_1]
          exact ih2 K a (b + 1) V (by omega) h2 h3 (by omega) hS (same (tn_st c0 1))
theorem T_findLetters {F e s m : Nat} {b : Int32} {d : Nat → Int32} {Z O Fi : Nat → Nat} {V : mV} (hF : 2 ^ 22 ≤ F) (he : 256 ≤ e) (hs : s ≤ 8) (hm : m ≤ 8) (hd : qA d m s Z O Fi) (hq : enQ V e s m b d) : mTo (mX6_findLetters F e V) (fun p => mcS p.2 s Z O Fi ∧ ltS p.2 s (tn Z O Fi 9) ∧ mAv (wX6_findLetters e) V p.2) := by
  have main : mTo (mX6_findLetters F e V) (fun p => mcS p.2 s Z O Fi ∧ ltS p.2 s (tn Z O Fi 9)) := by
    unfold mX6_findLetters mX6_findLetters_s
    refine mTo.W (T_loadStates (by omega) he hs hm hd hq) (fun a V1 _ q => ?_)
    obtain ⟨q1, q2⟩ := q
    have q1 : mcS V1 s Z O Fi := q1
    refine mTo.W (T_fill (F := F) (a := 87) (N := 64) (by omega) rfl (by omega)) (fun a V2 _ qf => ?_)
    obtain ⟨z0, qb⟩ := qf
    have z0 : ∀ i, i < 64 → V2.rI 87 i = -1 := z0
    have qb : mAv (wJ7_fill_53178 87) V1 V2 := qb
    have w : ∀ i, i ≠ 87 → V2.fI i = V1.fI i ∧ V2.rI i = V1.rI i := fun i hi => by
      have := qb.1 i (by unfold wJ7_fill_53178; omega)
      exact ⟨this.1, this.2.2.1⟩
    refine (T_findLetters_go (F := F) hs (fun i hi => ⟨(hd i hi).2.2.1, (hd i hi).2.2.2.1, (hd i hi).2.2.2.2⟩) F).1 0 V2 (by omega) (by omega) ⟨by rw [(w 8 (by decide)).1]; exact q1.1, fun i hi => ?_⟩ (fun x y hx hy => ?_)
    · rw [(w 84 (by decide)).2, (w 85 (by decide)).2, (w 86 (by decide)).2]
      exact q1.2 i hi
    · rw [z0 _ (by omega)]
      exact (by decide : (-1 : Int32) = nI 0 - 1)
  obtain ⟨p, e1, q⟩ := main
  exact ⟨p, e1, q.1, q.2, NX6_findLetters (v := p.1) e1⟩
/-- the lowest state that is alike -/
def lkB (Z O Fi : Nat → Nat) (a : Nat) : Nat → Nat
  | 0 => 0
  | k + 1 => if lkB Z O Fi a k < k then lkB Z O Fi a k else if rl Z O Fi 9 k a = true then k else k + 1
theorem lkB_spec {Z O Fi : Nat → Nat} {a : Nat} : ∀ k, (lkB Z O Fi a k < k → rl Z O Fi 9 (lkB Z O Fi a k) a = true) ∧ (∀ l, l < lkB Z O Fi a k → rl Z O Fi 9 l a = false) ∧ lkB Z O Fi a k ≤ k
  | 0 => ⟨fun h => absurd h (Nat.not_lt_zero _), fun l h => absurd h (Nat.not_lt_zero l), Nat.le_refl _⟩
  | k + 1 => by
    obtain ⟨x, y, c⟩ := lkB_spec (Z := Z) (O := O) (Fi := Fi) (a := a) k
    rw [lkB]
    by_cases h : lkB Z O Fi a k < k
    · rw [if_pos h]
      exact ⟨fun _ => x h, y, by omega⟩
    · have e : lkB Z O Fi a k = k := by omega
      rw [if_neg h]
      rw [e] at y
      by_cases h2 : rl Z O Fi 9 k a = true
      · rw [if_pos h2]
        exact ⟨fun _ => h2, y, by omega⟩
      · rw [if_neg h2]
        refine ⟨fun z => absurd z (Nat.lt_irrefl _), fun l hl => ?_, Nat.le_refl _⟩
        by_cases e2 : l = k
        · subst e2
          exact Bool.eq_false_iff.mpr h2
        · exact y l (by omega)
def lk (Z O Fi : Nat → Nat) (a : Nat) : Nat := lkB Z O Fi a a
theorem lk_spec {Z O Fi : Nat → Nat} (a : Nat) : lk Z O Fi a ≤ a ∧ rl Z O Fi 9 (lk Z O Fi a) a = true ∧ ∀ l, l < lk Z O Fi a → rl Z O Fi 9 l a = false := by
  obtain ⟨x, y, c⟩ := lkB_spec (Z := Z) (O := O) (Fi := Fi) (a := a) a
  refine ⟨c, ?_, y⟩
  unfold lk
  rcases Nat.lt_or_ge (lkB Z O Fi a a) a with z | z
  · exact x z
  · rw [show lkB Z O Fi a a = a by omega]
    exact rl_rf 9 a
theorem lk_eq {Z O Fi : Nat → Nat} {a b : Nat} : lk Z O Fi a = lk Z O Fi b ↔ rl Z O Fi 9 a b = true := by
  obtain ⟨a1, a2, a3⟩ := lk_spec (Z := Z) (O := O) (Fi := Fi) a
  obtain ⟨b1, b2, b3⟩ := lk_spec (Z := Z) (O := O) (Fi := Fi) b
  constructor
  · intro e
    rw [e] at a2
    exact rl_tr 9 (rl_sy 9 a2) b2
  · intro h
    rcases Nat.lt_trichotomy (lk Z O Fi a) (lk Z O Fi b) with z | z | z
    · have := b3 _ z
      rw [rl_tr 9 a2 h] at this
      exact absurd this (by decide)
    · exact z
    · have := a3 _ z
      rw [rl_tr 9 b2 (rl_sy 9 h)] at this
      exact absurd this (by decide)
theorem T_lowestLike {F s a : Nat} {Z O Fi : Nat → Nat} {V : mV} (hF : 64 ≤ F) (hs : s ≤ 8) (ha : a < s) (hT : ltS V s (tn Z O Fi 9)) : mTo (mX6_lowestLike F (nI a) V) (fun v => v = nI (lk Z O Fi a)) := by
  have go : ∀ k' j, a < j + k' → j ≤ a → (∀ l, l < j → rl Z O Fi 9 l a = false) → mTo (mX6_lowestLike_go F k' 0 (nI a) (nI j) V) (fun v => v = nI (lk Z O Fi a)) := by
    obtain ⟨a1, a2, a3⟩ := lk_spec (Z := Z) (O := O) (Fi := Fi) a
    intro k'
    induction k' with
    | zero => intro j h1 h2; omega
    | succ k ih =>
      intro j h1 h2 hl
      rw [mX6_lowestLike_go, if_pos rfl]
      unfold mX6_lowestLike_b0
      have ge : j ≤ lk Z O Fi a := by
        rcases Nat.lt_or_ge (lk Z O Fi a) j with z | z
        · have := hl _ z
          rw [a2] at this
          exact absurd this (by decide)
        · exact z
      have tl := tn_le (Z := Z) (O := O) (Fi := Fi) 9 (a := j) (b := a)
      refine mTo.le rfl rfl (by omega) (by omega) (fun h => mTo.ret ?_) (fun h => mTo.so (T_lettersAt hs (by omega) ha hT) ?_)
      · congr 1
        omega
      · by_cases c : tn Z O Fi 9 j a = 0
        · rw [if_neg (fun z => (nI_m1_neg (by omega)).mp z c)]
          refine mTo.ret ?_
          congr 1
          rcases Nat.lt_or_ge j (lk Z O Fi a) with z | z
          · have := a3 j z
            rw [(tn_0 9).mp c] at this
            exact absurd this (by decide)
          · omega
        · rw [if_pos ((nI_m1_neg (by omega)).mpr c)]
          refine mTo.lt ?_
          rw [nI_1]
          refine ih (j + 1) (by omega) (by omega) (fun l hlj => ?_)
          by_cases e : l = j
          · subst e
            exact Bool.eq_false_iff.mpr (fun z => c ((tn_0 9).mpr z))
          · exact hl l (by omega)
  unfold mX6_lowestLike mX6_lowestLike_s
  exact go F 0 (by omega) (Nat.zero_le _) (fun l hl => by omega)
end
