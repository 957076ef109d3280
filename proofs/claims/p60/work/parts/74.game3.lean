/-! THE PURE PART, games: what the methods answer. -/
section
def gmS (V : mV) (s : Nat) (own w W : Nat → Nat) : Prop := V.fI 8 7 = nI s ∧ ∀ i, i < s → V.rI 88 i = nI (own i) ∧ V.rI 89 i = nI (w i) ∧ V.rI 90 i = nI (W i)
def gmB (s : Nat) (own w W : Nat → Nat) : Prop := s ≤ 7 ∧ ∀ i, i < s → own i ≤ 1 ∧ w i ≤ 5 ∧ W i < 2 ^ s
theorem gwN_le {w : Nat → Nat} {S M : Nat} : ∀ n, (∀ v, v < n → w v ≤ M) → gwN w S n ≤ M
  | 0, _ => Nat.zero_le _
  | n + 1, h => by
    have ih := gwN_le (S := S) n (fun v hv => h v (by omega))
    have := h n (by omega)
    rw [gwN]
    by_cases c : S.testBit n = true
    · rw [if_pos c]
      omega
    · rw [if_neg c]
      exact ih
theorem T_greatestWeight {F s S : Nat} {own w W : Nat → Nat} {V : mV} (hF : 64 ≤ F) (hB : gmB s own w W) (hV : gmS V s own w W) (hS : S < 2 ^ 7) : mTo (mX6_greatestWeight F (nI S) V) (fun v => v = nI (gwN w S s)) := by
  have s7 := hB.1
  have go : ∀ k' j, s < j + k' → j ≤ s → mTo (mX6_greatestWeight_go F k' 0 (nI S) (nI (gwN w S j)) (nI j) V) (fun v => v = nI (gwN w S s)) := by
    intro k'
    induction k' with
    | zero => intro j h1 h2; omega
    | succ k ih =>
      intro j h1 h2
      have gl := gwN_le (w := w) (S := S) (M := 5) j (fun v hv => (hB.2 v (by omega)).2.1)
      rw [mX6_greatestWeight_go, if_pos rfl]
      unfold mX6_greatestWeight_b0
      have g := ih (j + 1)
      rw [gwN] at g
      refine mTo.le hV.1 rfl (by omega) (by omega) (fun h => mTo.ret ?_) (fun h => mTo.hs rfl rfl (by omega) (by omega) (fun hb => mTo.lt ?_) (fun hb => mTo.ix rfl (by omega) (by omega) (mTo.lt (mTo.lt ?_))))
      · have : j = s := by omega
        subst this
        rw [if_neg (fun z => by have := (nI_ltI (a := 5) (b := gwN w S j) (by omega) (by omega)).mp z; omega)]
      · rw [if_neg (by rw [hb]; decide)] at g
        rw [nI_1]
        exact g (by omega) (by omega)
      · rw [if_pos hb] at g
        have wl := (hB.2 j h).2.1
        rw [nI_clamp (by omega), (hV.2 j h).2.1, nI_1]
        rcases Nat.lt_or_ge (gwN w S j) (w j) with y | y
        · rw [if_pos ((nI_ltI (by omega) (by omega)).mpr y)]
          rw [Nat.max_eq_right (by omega)] at g
          exact g (by omega) (by omega)
        · rw [if_neg (fun z => by have := (nI_ltI (by omega) (by omega)).mp z; omega)]
          rw [Nat.max_eq_left (by omega)] at g
          exact g (by omega) (by omega)
  unfold mX6_greatestWeight mX6_greatestWeight_s
  exact go F 0 (by omega) (Nat.zero_le _)
theorem T_withWeight {F s S c : Nat} {own w W : Nat → Nat} {V : mV} (hF : 64 ≤ F) (hB : gmB s own w W) (hV : gmS V s own w W) (hS : S < 2 ^ 7) (hc : c ≤ 5) : mTo (mX6_withWeight F (nI S) (nI c) V) (fun v => v = nI (wwN w S c s)) := by
  have s7 := hB.1
  have go : ∀ k' j, s < j + k' → j ≤ s → mTo (mX6_withWeight_go F k' 0 (nI S) (nI c) (nI (wwN w S c j)) (nI j) V) (fun v => v = nI (wwN w S c s)) := by
    intro k'
    induction k' with
    | zero => intro j h1 h2; omega
    | succ k ih =>
      intro j h1 h2
      rw [mX6_withWeight_go, if_pos rfl]
      unfold mX6_withWeight_b0
      have g := ih (j + 1)
      rw [wwN] at g
      refine mTo.le hV.1 rfl (by omega) (by omega) (fun h => mTo.ret ?_) (fun h => mTo.hs rfl rfl (by omega) (by omega) (fun hb => mTo.lt ?_) (fun hb => mTo.ix rfl (by omega) (by omega) ?_))
      · have : j = s := by omega
        subst this
        rfl
      · rw [if_neg (fun z => by rw [hb] at z; exact absurd z.1 (by decide))] at g
        rw [nI_1]
        exact g (by omega) (by omega)
      · have wl := (hB.2 j h).2.1
        refine mTo.eqI (by rw [nI_clamp (by omega), (hV.2 j h).2.1]) rfl (by omega) (by omega) (fun e => mTo.lt (mTo.lt ?_)) (fun e => mTo.lt ?_)
        · rw [if_pos ⟨hb, e⟩] at g
          rw [nI_1, nb_one (by omega), nb_or]
          exact g (by omega) (by omega)
        · rw [if_neg (fun z => e z.2)] at g
          rw [nI_1]
          exact g (by omega) (by omega)
  unfold mX6_withWeight mX6_withWeight_s
  exact go F 0 (by omega) (Nat.zero_le _)
theorem dr1_i {own W : Nat → Nat} {i S v D : Nat} (e : own v = i) : dr1 own W i S v D = if S.testBit v = true ∧ ((W v &&& S) &&& D) ≠ 0 then D ||| 2 ^ v else D := by
  unfold dr1
  simp only [if_pos e]
theorem dr1_o {own W : Nat → Nat} {i S v D : Nat} (e : ¬ own v = i) : dr1 own W i S v D = if S.testBit v = true ∧ nsd (W v &&& S) D = 0 then D ||| 2 ^ v else D := by
  unfold dr1
  simp only [if_neg e]
theorem T_drawnTo {F s S G i : Nat} {own w W : Nat → Nat} {V : mV} (hF : 2 ^ 10 ≤ F) (hB : gmB s own w W) (hV : gmS V s own w W) (hS : S < 2 ^ s) (hG : G < 2 ^ s) (hi : i ≤ 1) : mTo (mX6_drawnTo F (nI G) (nI i) (nI S) V) (fun v => v = nI (drN own W s i S G)) := by
  have s7 := hB.1
  have p7 : (2 : Nat) ^ s ≤ 2 ^ 7 := Nat.pow_le_pow_right (by decide) s7
  have dl : ∀ r, it (fun D => drR own W i S s D) r G < 2 ^ s := fun r => it_lt hG (fun _ h => drR_lt h s (Nat.le_refl _)) r
  have go : ∀ k', (∀ r, (s - r) * 20 + 1 ≤ k' → r ≤ s → mTo (mX6_drawnTo_go F k' 0 (nI i) (nI S) (nI (it (fun D => drR own W i S s D) r G)) (nI r) 0 V) (fun v => v = nI (drN own W s i S G))) ∧ (∀ r j, (s - r - 1) * 20 + (s - j) + 2 ≤ k' → r < s → j ≤ s → mTo (mX6_drawnTo_go F k' 1 (nI i) (nI S) (nI (drR own W i S j (it (fun D => drR own W i S s D) r G))) (nI r) (nI j) V) (fun v => v = nI (drN own W s i S G))) := by
    intro k'
    induction k' with
    | zero => exact ⟨fun r h => by omega, fun r j h => by omega⟩
    | succ k ih =>
      obtain ⟨ih0, ih1⟩ := ih
      refine ⟨fun r h1 h2 => ?_, fun r j h1 h2 h3 => ?_⟩
      · rw [mX6_drawnTo_go, if_pos rfl]
        unfold mX6_drawnTo_b0
        refine mTo.le hV.1 rfl (by omega) (by omega) (fun h => mTo.ret ?_) (fun h => ih1 r 0 (by omega) h (Nat.zero_le _))
        have : r = s := by omega
        subst this
        rfl
      · rw [mX6_drawnTo_go, if_neg (by decide), if_pos rfl]
        unfold mX6_drawnTo_b1
        refine mTo.le hV.1 rfl (by omega) (by omega) (fun h => mTo.lt ?_) (fun h => mTo.ix rfl (by omega) (by omega) (mTo.lt (mTo.ix rfl (by omega) (by omega) ?_)))
        · have : j = s := by omega
          subst this
          rw [nI_1]
          exact ih0 (r + 1) (by omega) (by omega)
        · obtain ⟨ol, wl, Wl⟩ := hB.2 j h
          obtain ⟨v1, v2, v3⟩ := hV.2 j h
          have cl : (nI j).toNatClampNeg = j := nI_clamp (by omega)
          have g := ih1 r (j + 1) (by omega) h2 (by omega)
          rw [drR] at g
          have Dl := drR_lt (own := own) (W := W) (i := i) (S := S) (dl r) j h3
          generalize drR own W i S j (it (fun D => drR own W i S s D) r G) = D at *
          rw [cl, v3, nb_and]
          have xl : W j &&& S < 2 ^ s := nb_and_lt Wl
          have yl : (W j &&& S) &&& D < 2 ^ s := nb_and_lt xl
          have zl := nsd_lt (T := D) xl
          refine mTo.eqI v1 rfl (by omega) (by omega) (fun e => ?_) (fun e => ?_)
          · rw [dr1_i e] at g
            rw [nb_and]
            refine mTo.eqI (b := 0) rfl rfl (by omega) (by omega) (fun z => mTo.hs rfl rfl (by omega) (by omega) (fun hb => mTo.lt ?_) (fun hb => mTo.lt ?_)) (fun z => mTo.hs rfl rfl (by omega) (by omega) (fun hb => mTo.lt ?_) (fun hb => mTo.lt (mTo.lt ?_)))
            · rw [if_neg (fun y => y.2 z)] at g
              rw [nI_1]
              exact g
            · rw [if_neg (fun y => y.2 z)] at g
              rw [nI_1]
              exact g
            · rw [if_neg (fun y => by rw [hb] at y; exact absurd y.1 (by decide))] at g
              rw [nI_1]
              exact g
            · rw [if_pos ⟨hb, z⟩] at g
              rw [nI_1, nb_one (by omega), nb_or]
              exact g
          · rw [dr1_o e] at g
            rw [nb_not (by omega)]
            refine mTo.eqI (b := 0) rfl rfl (by omega) (by omega) (fun z => mTo.hs rfl rfl (by omega) (by omega) (fun hb => mTo.lt ?_) (fun hb => mTo.lt (mTo.lt ?_))) (fun z => mTo.hs rfl rfl (by omega) (by omega) (fun hb => mTo.lt ?_) (fun hb => mTo.lt ?_))
            · rw [if_neg (fun y => by rw [hb] at y; exact absurd y.1 (by decide))] at g
              rw [nI_1]
              exact g
            · rw [if_pos ⟨hb, z⟩] at g
              rw [nI_1, nb_one (by omega), nb_or]
              exact g
            · rw [if_neg (fun y => z y.2)] at g
              rw [nI_1]
              exact g
            · rw [if_neg (fun y => z y.2)] at g
              rw [nI_1]
              exact g
  unfold mX6_drawnTo mX6_drawnTo_s
  exact (go F).1 0 (by omega) (Nat.zero_le _)
theorem drN_sub {own W : Nat → Nat} {s i S G : Nat} (hS : S < 2 ^ s) (hG : G < 2 ^ s) (hGS : ∀ v, G.testBit v = true → S.testBit v = true) : ∀ v, (drN own W s i S G).testBit v = true → S.testBit v = true := by
  obtain ⟨d, h⟩ := drN_ok (own := own) (W := W) (i := i) hS hG hGS
  exact h.2.1
theorem drN_sup {own W : Nat → Nat} {s i S G : Nat} (hS : S < 2 ^ s) (hG : G < 2 ^ s) (hGS : ∀ v, G.testBit v = true → S.testBit v = true) : ∀ v, G.testBit v = true → (drN own W s i S G).testBit v = true := by
  obtain ⟨d, h⟩ := drN_ok (own := own) (W := W) (i := i) hS hG hGS
  exact h.1
theorem nsd_sub {S T v : Nat} (h : (nsd S T).testBit v = true) : S.testBit v = true := by
  rw [nsd_bit, Bool.and_eq_true] at h
  exact h.1
theorem zk_sub {own w W : Nat → Nat} {s : Nat} : ∀ k S, S < 2 ^ s → zkN own w W s k S < 2 ^ s ∧ ∀ v, (zkN own w W s k S).testBit v = true → S.testBit v = true := by
  intro k
  induction k with
  | zero => exact fun S hS => ⟨Nat.two_pow_pos s, fun v h => by rw [zkN, Nat.zero_testBit] at h; exact absurd h (by decide)⟩
  | succ k ih =>
    intro S hS
    have z0 : (0 : Nat) < 2 ^ s ∧ ∀ v, (0 : Nat).testBit v = true → S.testBit v = true := ⟨Nat.two_pow_pos s, fun v h => by rw [Nat.zero_testBit] at h; exact absurd h (by decide)⟩
    rw [zkN]
    by_cases h0 : S = 0
    · rw [if_pos h0]
      exact z0
    · rw [if_neg h0]
      by_cases hp : gwN w S s % 2 = 0
      · rw [if_pos hp]
        by_cases z : nsd (nsd S (drN own W s 0 S (wwN w S (gwN w S s) s))) (zkN own w W s k (nsd S (drN own W s 0 S (wwN w S (gwN w S s) s)))) = 0
        · rw [if_pos z]
          exact ⟨hS, fun v h => h⟩
        · rw [if_neg z]
          obtain ⟨a, b⟩ := ih (nsd S (drN own W s 1 S (nsd (nsd S (drN own W s 0 S (wwN w S (gwN w S s) s))) (zkN own w W s k (nsd S (drN own W s 0 S (wwN w S (gwN w S s) s))))))) (nsd_lt hS)
          exact ⟨a, fun v h => nsd_sub (b v h)⟩
      · rw [if_neg hp]
        obtain ⟨a, b⟩ := ih (nsd S (drN own W s 1 S (wwN w S (gwN w S s) s))) (nsd_lt hS)
        generalize zkN own w W s k (nsd S (drN own W s 1 S (wwN w S (gwN w S s) s))) = won at *
        by_cases z : won = 0
        · rw [if_pos z]
          exact z0
        · rw [if_neg z]
          obtain ⟨c, d⟩ := ih (nsd S (drN own W s 0 S won)) (nsd_lt hS)
          refine ⟨nb_or_lt c (drN_lt a), fun v h => ?_⟩
          rw [Nat.testBit_or, Bool.or_eq_true] at h
          exact h.elim (fun y => nsd_sub (d v y)) (fun y => drN_sub hS a (fun u hu => nsd_sub (b u hu)) v y)
theorem T_won {F s : Nat} {own w W : Nat → Nat} {V : mV} (hF : 2 ^ 10 ≤ F) (hB : gmB s own w W) (hV : gmS V s own w W) : ∀ j S deep, cnt (fun i => S.testBit i) s < j → S < 2 ^ s → deep + cnt (fun i => S.testBit i) s ≤ 8 → mTo (mX6_wonByFirst F j (nI S) (nI deep) V) (fun v => v = nI (zkN own w W s j S)) := by
  have s7 := hB.1
  have p7 : (2 : Nat) ^ s ≤ 2 ^ 7 := Nat.pow_le_pow_right (by decide) s7
  intro j
  induction j with
  | zero => intro S deep h; omega
  | succ j ih =>
    intro S deep h1 h2 h3
    rw [mX6_wonByFirst]
    unfold mX6_wonByFirst_a mX6_wonByFirst_s
    rw [zkN]
    refine mTo.eqI (b := 0) rfl rfl (by omega) (by omega) (fun z => mTo.ret ?_) (fun z => ?_)
    · rw [if_pos z]
      rfl
    · rw [if_neg z]
      obtain ⟨v0, hv0⟩ := nb_ne0.mp z
      have lt : ∀ v, S.testBit v = true → v < s := fun v hv => by
        rcases Nat.lt_or_ge v s with z | z
        · exact z
        · rw [nb_big h2 z] at hv
          exact absurd hv (by decide)
      have cp := cnt_pos (X := fun i => S.testBit i) hv0 (lt v0 hv0)
      refine mTo.le (b := 8) rfl rfl (by omega) (by omega) (fun _ => mTo.N (T_greatestWeight (by omega) hB hV (by omega)) (fun a _ ha => mTo.lt ?_)) (fun y => by omega)
      subst ha
      have cl := gwN_le (w := w) (S := S) (M := 5) s (fun v hv => (hB.2 v hv).2.1)
      obtain ⟨x, x1, x2, x3⟩ := gwN_ex (w := w) (S := S) s ⟨v0, lt v0 hv0, hv0⟩
      generalize gwN w S s = c at *
      rw [show (2 : Int32) = nI 2 from rfl, pk_rem (by omega) (by decide) (by decide)]
      refine mTo.N (T_withWeight (by omega) hB hV (by omega) cl) (fun a _ ha => ?_)
      subst ha
      have gb : ∀ v, (wwN w S c s).testBit v = true ↔ v < s ∧ S.testBit v = true ∧ w v = c := fun v => wwN_bit s
      have gl := wwN_lt (w := w) (S := S) (c := c) (n := s)
      generalize wwN w S c s = G at *
      have gS : ∀ v, G.testBit v = true → S.testBit v = true := fun v hv => ((gb v).mp hv).2.1
      refine mTo.N (T_drawnTo hF hB hV h2 gl (by omega)) (fun a _ ha => mTo.lt ?_)
      subst ha
      rw [nb_not (by omega)]
      have cr : ∀ i, cnt (fun v => (nsd S (drN own W s i S G)).testBit v) s < cnt (fun v => S.testBit v) s := fun i => cnt_nsd h2 ⟨x, drN_sup h2 gl gS x ((gb x).mpr ⟨x1, x2, x3⟩), x2⟩
      -- the second half, of a player i, j = 1 - i
      have half : ∀ (pl L : Nat), pl ≤ 1 → L < 2 ^ s → (∀ v, L.testBit v = true → S.testBit v = true) → mTo (mX6_wonByFirst_go F (mX6_wonByFirst F j) F 0 (nI S) (nI deep) (nI pl) (nI L) V) (fun v => v = nI (if L = 0 then (if pl = 0 then S else 0) else if pl = 0 then zkN own w W s j (nsd S (drN own W s 1 S L)) else zkN own w W s j (nsd S (drN own W s 0 S L)) ||| drN own W s 0 S L)) := fun pl L hpl hL hLS => by
        obtain ⟨k, rfl⟩ : ∃ k, F = k + 1 := ⟨F - 1, by omega⟩
        rw [mX6_wonByFirst_go, if_pos rfl]
        unfold mX6_wonByFirst_b0
        refine mTo.eqI (b := 0) rfl rfl (by omega) (by omega) (fun y => mTo.eqI (b := 0) rfl rfl (by omega) (by omega) (fun q => mTo.ret ?_) (fun q => mTo.ret ?_)) (fun y => ?_)
        · rw [if_pos y, if_pos q]
        · rw [if_pos y, if_neg q]
          rfl
        · rw [if_neg y]
          obtain ⟨u, hu⟩ := nb_ne0.mp y
          have c2 : ∀ i, cnt (fun v => (nsd S (drN own W s i S L)).testBit v) s < cnt (fun v => S.testBit v) s := fun i => cnt_nsd h2 ⟨u, drN_sup h2 hL hLS u hu, hLS u hu⟩
          rw [show (1 : Int32) - nI pl = nI (1 - pl) from pk_sub (a := 1) hpl, nI_1]
          refine mTo.N (T_drawnTo hF hB hV h2 hL (by omega)) (fun a _ ha => ?_)
          subst ha
          rw [nb_not (by omega)]
          have c3 := c2 (1 - pl)
          refine mTo.N (ih (nsd S (drN own W s (1 - pl) S L)) (deep + 1) (by omega) (nsd_lt h2) (by omega)) (fun a _ ha => ?_)
          subst ha
          refine mTo.eqI (b := 0) rfl rfl (by omega) (by omega) (fun q => mTo.ret ?_) (fun q => mTo.ret ?_)
          · rw [if_pos q, q]
          · have : pl = 1 := by omega
            subst this
            rw [if_neg (by decide), nb_or]
      rw [nI_1]
      have c3 := cr (c % 2)
      refine mTo.N (ih (nsd S (drN own W s (c % 2) S G)) (deep + 1) (by omega) (nsd_lt h2) (by omega)) (fun a _ ha => ?_)
      subst ha
      obtain ⟨k1, k2⟩ := zk_sub (own := own) (w := w) (W := W) (s := s) j (nsd S (drN own W s (c % 2) S G)) (nsd_lt h2)
      refine mTo.eqI (b := 0) rfl rfl (by omega) (by omega) (fun q => ?_) (fun q => ?_)
      · rw [nb_not (Nat.lt_of_lt_of_le (nsd_lt (n := s) h2) (by omega)), if_pos q]
        have g := half 0 (nsd (nsd S (drN own W s (c % 2) S G)) (zkN own w W s j (nsd S (drN own W s (c % 2) S G)))) (by decide) (nsd_lt (nsd_lt h2)) (fun v hv => nsd_sub (nsd_sub hv))
        rw [q] at g ⊢
        rw [if_pos rfl, if_pos rfl] at g
        exact g
      · rw [if_neg q]
        have q1 : c % 2 = 1 := by omega
        rw [q1] at k1 k2 ⊢
        have g := half 1 (zkN own w W s j (nsd S (drN own W s 1 S G))) (by decide) k1 (fun v hv => nsd_sub (k2 v hv))
        rw [if_neg (c := (1 : Nat) = 0) (by decide), if_neg (c := (1 : Nat) = 0) (by decide)] at g
        exact g
end
