/-! THE PURE PART, games: what is loaded; the judges; weak duality. -/
section
/-- a way that is told, as a set -/
def wyB (v : Int32) : Nat := if v < 0 then 0 else 2 ^ v.toNatClampNeg
/-- the ways of an item, by its first k numbers of ways -/
def wyI (d : Nat → Int32) (i : Nat) : Nat → Nat
  | 0 => 0
  | k + 1 => wyI d i k ||| wyB (d (5 * i + 2 + k))
def qX (d : Nat → Int32) (m s : Nat) (own w W : Nat → Nat) : Prop := ∀ i, i < s → (i < m → d (5 * i) = nI (own i) ∧ d (5 * i + 1) = nI (w i) ∧ W i = wyI d i 3 ∧ (∀ k, k < 3 → d (5 * i + 2 + k) < 0 ∨ ∃ u, u < s ∧ d (5 * i + 2 + k) = nI u) ∧ ¬ d (5 * i + 2) < 0) ∧ (m ≤ i → own i = 0 ∧ w i = 0 ∧ W i = 2 ^ i) ∧ own i ≤ 1 ∧ w i ≤ 5
theorem wyB_lt {v : Int32} {s : Nat} (h : v < 0 ∨ ∃ u, u < s ∧ v = nI u) (hs : s ≤ 2 ^ 20) : wyB v < 2 ^ s := by
  unfold wyB
  rcases h with h | ⟨u, h1, h2⟩
  · rw [if_pos h]
    exact Nat.two_pow_pos s
  · rw [h2, if_neg (nI_pos (by omega)), nI_clamp (by omega)]
    exact nb_p2 h1
theorem wyI_lt {d : Nat → Int32} {i s : Nat} (hs : s ≤ 2 ^ 20) : ∀ k, (∀ l, l < k → d (5 * i + 2 + l) < 0 ∨ ∃ u, u < s ∧ d (5 * i + 2 + l) = nI u) → wyI d i k < 2 ^ s
  | 0, _ => Nat.two_pow_pos s
  | k + 1, h => nb_or_lt (wyI_lt hs k (fun l hl => h l (by omega))) (wyB_lt (h k (by omega)) hs)
theorem qX_b {d : Nat → Int32} {m s : Nat} {own w W : Nat → Nat} (hs : s ≤ 7) (h : qX d m s own w W) : gmB s own w W := by
  refine ⟨hs, fun i hi => ⟨(h i hi).2.2.1, (h i hi).2.2.2, ?_⟩⟩
  rcases Nat.lt_or_ge i m with z | z
  · obtain ⟨_, _, a, b, _⟩ := (h i hi).1 z
    rw [a]
    exact wyI_lt (by omega) 3 b
  · rw [((h i hi).2.1 z).2.2]
    exact nb_p2 hi
theorem qX_w {d : Nat → Int32} {m s : Nat} {own w W : Nat → Nat} (hs : s ≤ 7) (h : qX d m s own w W) : ∀ i, i < s → ∃ u, u < s ∧ (W i).testBit u = true := fun i hi => by
  rcases Nat.lt_or_ge i m with z | z
  · obtain ⟨_, _, a, b, c⟩ := (h i hi).1 z
    rcases b 0 (by omega) with y | ⟨u, u1, u2⟩
    · exact absurd y c
    · refine ⟨u, u1, ?_⟩
      rw [a]
      show (((0 ||| wyB (d (5 * i + 2 + 0))) ||| wyB (d (5 * i + 2 + 1))) ||| wyB (d (5 * i + 2 + 2))).testBit u = true
      have : (wyB (d (5 * i + 2 + 0))).testBit u = true := by
        unfold wyB
        rw [u2, if_neg (nI_pos (by omega)), nI_clamp (by omega), nb_pow]
        exact decide_eq_true rfl
      rw [Nat.testBit_or, Nat.testBit_or, Nat.testBit_or, this, Bool.or_true, Bool.true_or, Bool.true_or]
  · refine ⟨i, hi, ?_⟩
    rw [((h i hi).2.1 z).2.2, nb_pow]
    exact decide_eq_true rfl
theorem T_loadNodes_go {F e s m : Nat} {b : Int32} {d : Nat → Int32} {own w W : Nat → Nat} (he : 256 ≤ e) (hs : s ≤ 7) (hm : m ≤ 8) (hd : qX d m s own w W) : ∀ k', (∀ j (V : mV), (s - j) * 8 + 1 ≤ k' → j ≤ s → enQ V e s m b d → V.fI 8 7 = nI s → (∀ i, i < j → V.rI 88 i = nI (own i) ∧ V.rI 89 i = nI (w i) ∧ V.rI 90 i = nI (W i)) → mTo (mX6_loadNodes_go F k' 0 e (nI j) 0 0 0 0 0 V) (fun p => gmS p.2 s own w W)) ∧ (∀ j k (V : mV), (s - j - 1) * 8 + (3 - k) + 3 ≤ k' → j < s → j < m → k ≤ 3 → enQ V e s m b d → V.fI 8 7 = nI s → (∀ i, i < j → V.rI 88 i = nI (own i) ∧ V.rI 89 i = nI (w i) ∧ V.rI 90 i = nI (W i)) → V.rI 88 j = nI (own j) → V.rI 89 j = nI (w j) → V.rI 90 j = nI (wyI d j k) → mTo (mX6_loadNodes_go F k' 2 e (nI j) 1 (nI (2 + k)) 0 0 0 V) (fun p => gmS p.2 s own w W)) := by
  intro k'
  induction k' using Nat.strongRecOn with
  | ind k' ih =>
    refine ⟨fun j V h1 h2 hq h7 hi => ?_, fun j k V h1 h2 h3 h4 hq h7 hi x1 x2 x3 => ?_⟩
    · obtain ⟨x, rfl⟩ : ∃ x, k' = x + 1 := ⟨k' - 1, by omega⟩
      rw [mX6_loadNodes_go, if_pos rfl]
      unfold mX6_loadNodes_b0
      refine mTo.le h7 rfl (by omega) (by omega) (fun h => mTo.ret ?_) (fun h => ?_)
      · have : j = s := by omega
        subst this
        exact ⟨h7, hi⟩
      · obtain ⟨y, rfl⟩ : ∃ y, x = y + 1 := ⟨x - 1, by omega⟩
        have cl : (nI j).toNatClampNeg = j := nI_clamp (by omega)
        obtain ⟨d1, d2, d3, d4⟩ := hd j h
        have n1 : ∀ {V : mV} {x v : Int32}, (mI V 88 x v).rI (e + 1) = V.rI (e + 1) := mI_no (by omega)
        have n2 : ∀ {V : mV} {x v : Int32}, (mI V 89 x v).rI (e + 1) = V.rI (e + 1) := mI_no (by omega)
        have n3 : ∀ {V : mV} {x v : Int32}, (mI V 90 x v).rI (e + 1) = V.rI (e + 1) := mI_no (by omega)
        have old : ∀ (a c g : Int32) i, i < j → (mI (mI (mI V 88 (nI j) a) 89 (nI j) c) 90 (nI j) g).rI 88 i = nI (own i) ∧ (mI (mI (mI V 88 (nI j) a) 89 (nI j) c) 90 (nI j) g).rI 89 i = nI (w i) ∧ (mI (mI (mI V 88 (nI j) a) 89 (nI j) c) 90 (nI j) g).rI 90 i = nI (W i) := fun a c g i hij => by
          rw [mI_no (show 88 ≠ 90 by decide), mI_no (show 88 ≠ 89 by decide), mI_at cl, if_neg (by omega), mI_no (show 89 ≠ 90 by decide), mI_at cl, if_neg (by omega), mI_no (show 89 ≠ 88 by decide), mI_at cl, if_neg (by omega), mI_no (show 90 ≠ 89 by decide), mI_no (show 90 ≠ 88 by decide)]
          exact hi i hij
        have cur : ∀ (a c g : Int32), (mI (mI (mI V 88 (nI j) a) 89 (nI j) c) 90 (nI j) g).rI 88 j = a ∧ (mI (mI (mI V 88 (nI j) a) 89 (nI j) c) 90 (nI j) g).rI 89 j = c ∧ (mI (mI (mI V 88 (nI j) a) 89 (nI j) c) 90 (nI j) g).rI 90 j = g := fun a c g => by
          rw [mI_no (show 88 ≠ 90 by decide), mI_no (show 88 ≠ 89 by decide), mI_at cl, if_pos rfl, mI_no (show 89 ≠ 90 by decide), mI_at cl, if_pos rfl, mI_at cl, if_pos rfl]
          exact ⟨rfl, rfl, rfl⟩
        have hq3 : ∀ (a c g : Int32), enQ (mI (mI (mI V 88 (nI j) a) 89 (nI j) c) 90 (nI j) g) e s m b d := fun a c g => ⟨hq.1, hq.2.1, hq.2.2.1, fun l hl => by rw [n3, n2, n1]; exact hq.2.2.2 l hl⟩
        refine mTo.le hq.2.1 rfl (by omega) (by omega) (fun g => ?_) (fun g => mTo.so (T_item (k := 0) hq.2.1 (by omega) g (by omega) rfl ((hq.2.2.2 _ (by omega)).trans (d1 g).1)) ?_)
        · obtain ⟨c1, c2, c3⟩ := d2 g
          rw [mX6_loadNodes_go, if_neg (by decide), if_pos rfl]
          unfold mX6_loadNodes_b1
          refine mTo.ix (N := mLen 88) rfl (show j < 8 by omega) (show 8 < 2 ^ 31 by decide) (mTo.lt ?_)
          rw [if_pos rfl]
          refine mTo.ix rfl (by omega) (by omega) (mTo.lt ?_)
          rw [if_pos rfl]
          refine mTo.ix rfl (by omega) (by omega) (mTo.lt ?_)
          obtain ⟨z, rfl⟩ : ∃ z, y = z + 1 := ⟨y - 1, by omega⟩
          rw [mX6_loadNodes_go, if_neg (by decide), if_neg (by decide), if_pos rfl]
          unfold mX6_loadNodes_b2
          rw [if_neg (by decide), if_pos rfl]
          refine mTo.lt ?_
          rw [nI_1, nb_one (by omega)]
          refine (ih z (by omega)).1 (j + 1) _ (by omega) (by omega) (hq3 _ _ _) h7 (fun i hij => ?_)
          by_cases e1 : i = j
          · subst e1
            obtain ⟨q1, q2, q3⟩ := cur 0 0 (nI (2 ^ i))
            rw [q1, q2, q3, c1, c2, c3]
            exact ⟨rfl, rfl, rfl⟩
          · exact old _ _ _ i (by omega)
        · obtain ⟨c1, c2, c3, c4, c5⟩ := d1 g
          rw [mX6_loadNodes_go, if_neg (by decide), if_pos rfl]
          unfold mX6_loadNodes_b1
          refine mTo.ix (N := mLen 88) rfl (show j < 8 by omega) (show 8 < 2 ^ 31 by decide) (mTo.lt ?_)
          rw [if_neg (by decide)]
          refine mTo.so (T_item (V := mI V 88 (nI j) (nI (own j))) (k := 1) (x := nI (w j)) hq.2.1 (by omega) g (by omega) rfl (by rw [n1, hq.2.2.2 _ (by omega)]; exact c2)) (mTo.ix rfl (by omega) (by omega) (mTo.lt ?_))
          rw [if_neg (by decide)]
          refine mTo.ix rfl (by omega) (by omega) (mTo.lt ?_)
          obtain ⟨q1, q2, q3⟩ := cur (nI (own j)) (nI (w j)) 0
          exact (ih y (by omega)).2 j 0 _ (by omega) h g (by omega) (hq3 _ _ _) h7 (fun i hij => old _ _ _ i hij) q1 q2 q3
    · obtain ⟨x, rfl⟩ : ∃ x, k' = x + 1 := ⟨k' - 1, by omega⟩
      obtain ⟨d1, _, _, _⟩ := hd j h2
      obtain ⟨c1, c2, c3, c4, c5⟩ := d1 h3
      have cl : (nI j).toNatClampNeg = j := nI_clamp (by omega)
      rw [mX6_loadNodes_go, if_neg (by decide), if_neg (by decide), if_pos rfl]
      unfold mX6_loadNodes_b2
      refine mTo.le (a := 5) rfl rfl (by omega) (by omega) (fun h => mTo.lt ?_) (fun h => ?_)
      · have : k = 3 := by omega
        subst this
        rw [nI_1]
        refine (ih x (by omega)).1 (j + 1) V (by omega) (by omega) hq h7 (fun i hij => ?_)
        by_cases e1 : i = j
        · subst e1
          rw [x1, x2, x3, c3]
          exact ⟨rfl, rfl, rfl⟩
        · exact hi i (by omega)
      · rw [if_neg (by decide)]
        have rd : V.rI (e + 1) (5 * j + (2 + k)) = d (5 * j + 2 + k) := by
          rw [hq.2.2.2 _ (by omega), Nat.add_assoc]
        refine mTo.so (T_item (k := 2 + k) hq.2.1 (by omega) h3 (by omega) rfl rd) (mTo.ite (fun hn => mTo.lt ?_) (fun hn => mTo.ix rfl (by omega) (by omega) (mTo.so (T_item (k := 2 + k) hq.2.1 (by omega) h3 (by omega) rfl rd) (mTo.ix rfl (by omega) (by omega) (mTo.lt (mTo.lt ?_))))))
        · rw [nI_1]
          refine (ih x (by omega)).2 j (k + 1) V (by omega) h2 h3 (by omega) hq h7 hi x1 x2 ?_
          rw [x3, wyI]
          unfold wyB
          rw [if_pos hn, Nat.or_zero]
        · rcases c4 k (by omega) with z | ⟨u, u1, u2⟩
          · exact absurd z hn
          · rw [nI_1, cl, x3, u2, nb_one (by omega), nb_or]
            refine (ih x (by omega)).2 j (k + 1) _ (by omega) h2 h3 (by omega) ⟨hq.1, hq.2.1, hq.2.2.1, fun l hl => by rw [mI_no (by omega)]; exact hq.2.2.2 l hl⟩ h7 (fun i hij => ?_) (by rw [mI_no (by decide)]; exact x1) (by rw [mI_no (by decide)]; exact x2) ?_
            · rw [mI_no (by decide), mI_no (by decide), mI_at cl, if_neg (by omega)]
              exact hi i hij
            · rw [mI_at cl, if_pos rfl, wyI]
              unfold wyB
              rw [u2, if_neg (nI_pos (by omega)), nI_clamp (by omega)]
theorem T_loadNodes {F e s m : Nat} {b : Int32} {d : Nat → Int32} {own w W : Nat → Nat} {V : mV} (hF : 128 ≤ F) (he : 256 ≤ e) (hs : s ≤ 7) (hm : m ≤ 8) (hd : qX d m s own w W) (hq : enQ V e s m b d) : mTo (mX6_loadNodes F e V) (fun p => gmS p.2 s own w W ∧ mAv (wX6_loadNodes e) V p.2) := by
  have main : mTo (mX6_loadNodes F e V) (fun p => gmS p.2 s own w W) := by
    unfold mX6_loadNodes mX6_loadNodes_s
    refine mTo.lt ?_
    have q2 : enQ (mF V 8 7 (V.fI e 1)) e s m b d := by
      obtain ⟨a1, a2, a3, a4⟩ := hq
      exact ⟨by rw [mF_no (Or.inl (by omega))]; exact a1, by rw [mF_no (Or.inl (by omega))]; exact a2, by rw [mF_no (Or.inl (by omega))]; exact a3, a4⟩
    exact (T_loadNodes_go he hs hm hd F).1 0 _ (by omega) (by omega) q2 (by rw [mF_at]; exact hq.1) (fun i hi => absurd hi (Nat.not_lt_zero i))
  obtain ⟨p, e1, q⟩ := main
  exact ⟨p, e1, q, NX6_loadNodes (v := p.1) e1⟩
/-- the ways with those of the player fixed, for the nodes below j -/
def fxW (own W : Nat → Nat) (pl : Nat) (xs : List Int32) (j v : Nat) : Nat := if v < j ∧ own v = pl then 2 ^ pX xs v else W v
def gameOK (s : Nat) (own w W : Nat → Nat) (q pl : Nat) (xs : List Int32) : Prop := xs.length = s ∧ (∀ v, v < s → (own v ≠ pl → xs.getD v 0 = -1) ∧ (own v = pl → ∃ u, u < s ∧ xs.getD v 0 = nI u ∧ (W v).testBit u = true)) ∧ ((zkN own w (fxW own W pl xs s) s 48 (2 ^ s - 1)).testBit q = true ↔ pl = 0)
theorem T_zk {F s : Nat} {own w W : Nat → Nat} {V : mV} (hF : 2 ^ 10 ≤ F) (hB : gmB s own w W) (hV : gmS V s own w W) : mTo (mX6_wonByFirst F 48 (((1 : Int32) <<< ((V.fI 8 7) &&& 31)) - (1 : Int32)) (0 : Int32) V) (fun v => v = nI (zkN own w W s 48 (2 ^ s - 1))) := by
  have s7 := hB.1
  have p2 := Nat.two_pow_pos s
  rw [hV.1, nb_full (by omega)]
  exact T_won hF hB hV 48 (2 ^ s - 1) 0 (by rw [cnt_fullb]; omega) (by omega) (by rw [cnt_fullb]; omega)
theorem T_isWonBy {F s q pl : Nat} {own w W : Nat → Nat} {V : mV} (hF : 2 ^ 10 ≤ F) (hB : gmB s own w W) (hV : gmS V s own w W) (hq : q < s) : mTo (mX6_isWonBy F (nI pl) (nI q) V) (fun v => (v = 0 ∨ v = 1) ∧ (v ≠ 0 ↔ ((zkN own w W s 48 (2 ^ s - 1)).testBit q = true ↔ nI pl = 0))) := by
  have s7 := hB.1
  have p7 : (2 : Nat) ^ s ≤ 2 ^ 7 := Nat.pow_le_pow_right (by decide) s7
  have p2 := Nat.two_pow_pos s
  have zl := (zk_sub (own := own) (w := w) (W := W) (s := s) 48 (2 ^ s - 1) (by omega)).1
  unfold mX6_isWonBy
  refine mTo.N (T_zk hF hB hV) (fun v _ hv => ?_)
  subst hv
  cases h : (zkN own w W s 48 (2 ^ s - 1)).testBit q with
  | true =>
    refine mTo.so (nb_hasT (by omega) (by omega) h) (mTo.ite (fun e => ?_) (fun e => ?_))
    · rw [if_pos rfl]
      exact mTo.ret ⟨Or.inr rfl, fun _ => ⟨fun _ => e, fun _ => rfl⟩, fun _ => by decide⟩
    · rw [if_neg (by decide)]
      exact mTo.ret ⟨Or.inl rfl, fun z => absurd rfl z, fun z => absurd (z.mp rfl) e⟩
  | false =>
    refine mTo.so (nb_hasF (by omega) (by omega) h) (mTo.ite (fun e => ?_) (fun e => ?_))
    · rw [if_neg (by decide)]
      exact mTo.ret ⟨Or.inl rfl, fun z => absurd rfl z, fun z => absurd (z.mpr e) (by decide)⟩
    · rw [if_pos rfl]
      exact mTo.ret ⟨Or.inr rfl, fun _ => ⟨fun z => absurd z (by decide), fun z => absurd z e⟩, fun _ => by decide⟩
theorem gmS.f {V : mV} {s j u : Nat} {own w W : Nat → Nat} (h : gmS V s own w W) (hj : j < 2 ^ 20) : gmS (mI V 90 (nI j) (nI (2 ^ u))) s own w (fun v => if v = j then 2 ^ u else W v) := ⟨h.1, fun i hi => by
  rw [mI_no (by decide), mI_no (by decide), mI_at (nI_clamp (by omega))]
  obtain ⟨a, b, c⟩ := h.2 i hi
  refine ⟨a, b, ?_⟩
  dsimp only
  by_cases e : i = j
  · rw [if_pos e, if_pos e]
  · rw [if_neg e, if_neg e, c]⟩
theorem T_judgeGame {F e r s m b pl : Nat} {Ln : Nat → Nat} {d : Nat → Int32} {own w W : Nat → Nat} {xs : List Int32} {V : mV} (hF : 2 ^ 12 ≤ F) (he : 256 ≤ e) (hr : 256 ≤ r) (hs : s ≤ 7) (h0 : 0 < s) (hm : m ≤ 8) (hb : b < 2 ^ 20) (hpl : pl ≤ 1) (hd : qX d m s own w W) (hq : enQ V e s m (nI b) d) (hR : rowIs Ln V r xs) : mTo (mX6_judgeGame F Ln e r (nI pl) V) (fun p => p.1 = 0 ↔ gameOK s own w W (qN s b) pl xs) := by
  have hB := qX_b hs hd
  have ql := qN_lt (s := s) (b := b) h0
  have n := hR.n
  have p7 : (2 : Nat) ^ s ≤ 2 ^ 7 := Nat.pow_le_pow_right (by decide) hs
  have no : ∀ {P : Prop}, (1 : Int32) = 0 → P := fun z => absurd z (by decide)
  have go : ∀ k' j (V : mV), s < j + k' → j ≤ s → enQ V e s m (nI b) d → rowIs Ln V r xs → xs.length = s → (∀ v, v < j → (own v ≠ pl → xs.getD v 0 = -1) ∧ (own v = pl → ∃ u, u < s ∧ xs.getD v 0 = nI u ∧ (W v).testBit u = true)) → gmS V s own w (fxW own W pl xs j) → mTo (mX6_judgeGame_go F k' 0 Ln e r (nI pl) (nI j) V) (fun p => p.1 = 0 ↔ gameOK s own w W (qN s b) pl xs) := by
    intro k'
    induction k' with
    | zero => intro j V h1 h2; omega
    | succ k ih =>
      intro j V h1 h2 hq hR hl hv hV
      have hBj : gmB s own w (fxW own W pl xs j) := ⟨hs, fun i hi => ⟨(hB.2 i hi).1, (hB.2 i hi).2.1, by
        unfold fxW
        by_cases e : i < j ∧ own i = pl
        · rw [if_pos e]
          obtain ⟨u, u1, u2, _⟩ := (hv i e.1).2 e.2
          rw [pX_eq u2 (by omega)]
          exact nb_p2 u1
        · rw [if_neg e]
          exact (hB.2 i hi).2.2⟩⟩
      rw [mX6_judgeGame_go, if_pos rfl]
      unfold mX6_judgeGame_b0
      refine mTo.le hV.1 rfl (by omega) (by omega) (fun h => mTo.so (T_nodeAsked (by omega) h0 hb hq) (mTo.N (T_isWonBy (by omega) hBj hV ql) (fun v _ q => mTo.tf q (fun z => mTo.ret ?_) (fun z => mTo.ret ?_)))) (fun h => mTo.so (T_rAt hR (by omega)) (mTo.ix rfl (by omega) (by omega) ?_))
      · refine ⟨fun y => absurd (show (2 : Int32) = 0 from y) (by decide), fun y => absurd ?_ z⟩
        have : j = s := by omega
        subst this
        exact y.2.2.trans ⟨fun q => by rw [q]; rfl, fun q => by have := (nI_eq (a := pl) (b := 0) (by omega) (by omega)).mp q; exact this⟩
      · have : j = s := by omega
        subst this
        exact ⟨fun _ => ⟨hl, hv, z.trans ⟨fun q => (nI_eq (a := pl) (b := 0) (by omega) (by omega)).mp q, fun q => by rw [q]; rfl⟩⟩, fun _ => rfl⟩
      · have cl : (nI j).toNatClampNeg = j := nI_clamp (by omega)
        have oj := (hB.2 j h).1
        refine mTo.eqI (by rw [cl, (hV.2 j h).1]) rfl (by omega) (by omega) (fun e => ?_) (fun e => ?_)
        · refine mTo.ite (fun z => mTo.ret ⟨fun y => no y, fun y => ?_⟩) (fun z => mTo.ite (fun z2 => mTo.ret ⟨fun y => no y, fun y => ?_⟩) (fun z2 => mTo.ix rfl (by omega) (by omega) ?_))
          · obtain ⟨u, u1, u2, _⟩ := (y.2.1 j h).2 e
            rw [u2] at z
            exact absurd z (nI_pos (by omega))
          · obtain ⟨u, u1, u2, _⟩ := (y.2.1 j h).2 e
            rw [u2, hV.1, nI_leI (by omega) (by omega)] at z2
            omega
          · obtain ⟨u, hu, u2⟩ := nI_of z
            rw [u2, hV.1, nI_leI (by omega) hu] at z2
            have Wj : fxW own W pl xs j j = W j := by unfold fxW; rw [if_neg (by omega)]
            have wl := (hB.2 j h).2.2
            refine mTo.hs (by rw [cl, (hV.2 j h).2.2, Wj]) u2 (by omega) (by omega) (fun y => mTo.ret ⟨fun q => no q, fun q => ?_⟩) (fun y => mTo.ix rfl (by omega) (by omega) (mTo.lt (mTo.lt ?_)))
            · obtain ⟨t, t1, t2, t3⟩ := (q.2.1 j h).2 e
              rw [u2] at t2
              rw [← (nI_eq (by omega) (by omega)).mp t2, y] at t3
              exact absurd t3 (by decide)
            · rw [nI_1, u2, nb_one (by omega)]
              refine ih (j + 1) _ (by omega) (by omega) ⟨hq.1, hq.2.1, hq.2.2.1, fun l hl => by rw [mI_no (by omega)]; exact hq.2.2.2 l hl⟩ ⟨hR.1, hR.2.1, hR.2.2.1, fun l hl => by rw [mI_no (by omega)]; exact hR.2.2.2 l hl⟩ hl (fun v hv' => ?_) ?_
              · by_cases q : v = j
                · subst q
                  exact ⟨fun t => absurd e t, fun _ => ⟨u, by omega, u2, y⟩⟩
                · exact hv v (by omega)
              · have g := hV.f (j := j) (u := u) (by omega)
                have ef : (fun v => if v = j then 2 ^ u else fxW own W pl xs j v) = fxW own W pl xs (j + 1) := by
                  funext v
                  unfold fxW
                  by_cases q : v = j
                  · subst q
                    rw [if_pos rfl, if_pos ⟨Nat.lt_succ_self _, e⟩, pX_eq u2 (by omega)]
                  · rw [if_neg q]
                    by_cases t : v < j ∧ own v = pl
                    · rw [if_pos t, if_pos ⟨by omega, t.2⟩]
                    · rw [if_neg t, if_neg (fun p => t ⟨by omega, p.2⟩)]
                rw [ef] at g
                exact g
        · refine mTo.ite (fun z => mTo.lt ?_) (fun z => mTo.ret ⟨fun y => no y, fun y => absurd ((y.2.1 j h).1 e) z⟩)
          rw [nI_1]
          refine ih (j + 1) V (by omega) (by omega) hq hR hl (fun v hv' => ?_) ?_
          · by_cases q : v = j
            · subst q
              exact ⟨fun _ => z, fun t => absurd t e⟩
            · exact hv v (by omega)
          · have ef : fxW own W pl xs (j + 1) = fxW own W pl xs j := by
              funext v
              unfold fxW
              by_cases t : v < j ∧ own v = pl
              · rw [if_pos t, if_pos ⟨by omega, t.2⟩]
              · rw [if_neg t, if_neg (fun p => t ⟨by
                  rcases Nat.lt_or_ge v j with y | y
                  · exact y
                  · have : v = j := by omega
                    subst this
                    exact absurd p.2 e, p.2⟩)]
            rw [ef]
            exact hV
  unfold mX6_judgeGame mX6_judgeGame_s
  refine mTo.W (T_loadNodes (by omega) he hs hm hd hq) (fun a V1 _ q => ?_)
  obtain ⟨q1, q2⟩ := q
  have q1 : gmS V1 s own w W := q1
  have q2 : mAv (wX6_loadNodes e) V V1 := q2
  have hq1 := hq.mv q2 (by unfold wX6_loadNodes; omega) (by unfold wX6_loadNodes; omega)
  have hR1 := hR.mv q2 (by unfold wX6_loadNodes; omega) (by unfold wX6_loadNodes; omega)
  refine mTo.eqI hR1.1 q1.1 (by omega) (by omega) (fun hl => ?_) (fun hl => mTo.ret ⟨fun z => no z, fun z => absurd z.1 hl⟩)
  have ef : fxW own W pl xs 0 = W := by
    funext v
    unfold fxW
    rw [if_neg (fun z => absurd z.1 (Nat.not_lt_zero _))]
  exact go F 0 V1 (by omega) (Nat.zero_le _) hq1 hR1 hl (fun v hv => absurd hv (Nat.not_lt_zero _)) (by rw [ef]; exact q1)
/-- who wins from a node of the whole game -/
theorem zk_full {s : Nat} {own w W : Nat → Nat} (hB : gmB s own w W) (hW : ∀ i, i < s → ∃ u, u < s ∧ (W i).testBit u = true) : WinS own w W (fun v => v < s) (fun v => (zkN own w W s 48 (2 ^ s - 1)).testBit v = true) 0 ∧ WinS own w W (fun v => v < s) (fun v => v < s ∧ ¬ (zkN own w W s 48 (2 ^ s - 1)).testBit v = true) 1 := by
  have s7 := hB.1
  have p2 := Nat.two_pow_pos s
  have fb : ∀ v, (2 ^ s - 1).testBit v = true ↔ v < s := fun v => by rw [nb_fullbit, decide_eq_true_eq]
  obtain ⟨_, a, b⟩ := zielonka (own := own) (w := w) (W := W) (s := s) (fun v hv => by have := (hB.2 v hv).1; omega) 48 (2 ^ s - 1) (by rw [cnt_fullb]; omega) (by omega) (fun v hv => by
    obtain ⟨u, u1, u2⟩ := hW v ((fb v).mp hv)
    exact ⟨u, u2, (fb u).mpr u1⟩)
  exact ⟨a.eqv fb (fun v => Iff.rfl), b.eqv fb (fun v => by rw [fb v])⟩
/-- what is won with fewer ways of one's own is won with more -/
theorem WinS.fx {own w W W' : Nat → Nat} {S X : Nat → Prop} {i : Nat} (h : WinS own w W S X i) (h1 : ∀ v u, S v → own v = i → (W v).testBit u = true → (W' v).testBit u = true) (h2 : ∀ v, S v → own v ≠ i → W' v = W v) : WinS own w W' S X i := by
  obtain ⟨a1, σ, a2, a3, a4⟩ := h
  refine ⟨a1, σ, fun v hv e => ⟨h1 v _ (a1 v hv) e (a2 v hv e).1, (a2 v hv e).2⟩, fun v hv e u hu hw => a3 v hv e u hu (by rw [← h2 v (a1 v hv) e]; exact hw), fun p hp => a4 p fun n => ⟨(hp n).1, ?_, (hp n).2.2⟩⟩
  by_cases e : own (p n) = i
  · rw [(hp n).2.2 e]
    exact (a2 _ (hp n).1 e).1
  · rw [← h2 _ (a1 _ (hp n).1) e]
    exact (hp n).2.1
theorem games_no {s q : Nat} {own w W : Nat → Nat} {xs ys : List Int32} (hB : gmB s own w W) (hW : ∀ i, i < s → ∃ u, u < s ∧ (W i).testBit u = true) (hq : q < s) (h0 : gameOK s own w W q 0 xs) (h1 : gameOK s own w W q 1 ys) : False := by
  have s7 := hB.1
  have ho : ∀ v, v < s → own v = 0 ∨ own v = 1 := fun v hv => by have := (hB.2 v hv).1; omega
  have fx : ∀ pl (zs : List Int32), (∀ v, v < s → (own v ≠ pl → zs.getD v 0 = -1) ∧ (own v = pl → ∃ u, u < s ∧ zs.getD v 0 = nI u ∧ (W v).testBit u = true)) → gmB s own w (fxW own W pl zs s) ∧ (∀ i, i < s → ∃ u, u < s ∧ (fxW own W pl zs s i).testBit u = true) ∧ (∀ v u, v < s → own v = pl → (fxW own W pl zs s v).testBit u = true → (W v).testBit u = true) ∧ ∀ v, v < s → own v ≠ pl → W v = fxW own W pl zs s v := fun pl zs hz => by
    have val : ∀ v, v < s → own v = pl → ∃ u, u < s ∧ fxW own W pl zs s v = 2 ^ u ∧ (W v).testBit u = true := fun v hv e => by
      obtain ⟨u, u1, u2, u3⟩ := (hz v hv).2 e
      refine ⟨u, u1, ?_, u3⟩
      unfold fxW
      rw [if_pos ⟨hv, e⟩, pX_eq u2 (by omega)]
    have oth : ∀ v, v < s → own v ≠ pl → fxW own W pl zs s v = W v := fun v hv e => by
      unfold fxW
      rw [if_neg (fun z => e z.2)]
    refine ⟨⟨s7, fun i hi => ⟨(hB.2 i hi).1, (hB.2 i hi).2.1, ?_⟩⟩, fun i hi => ?_, fun v u hv e h => ?_, fun v hv e => (oth v hv e).symm⟩
    · by_cases e : own i = pl
      · obtain ⟨u, u1, u2, _⟩ := val i hi e
        rw [u2]
        exact nb_p2 u1
      · rw [oth i hi e]
        exact (hB.2 i hi).2.2
    · by_cases e : own i = pl
      · obtain ⟨u, u1, u2, _⟩ := val i hi e
        exact ⟨u, u1, by rw [u2, nb_pow]; exact decide_eq_true rfl⟩
      · rw [oth i hi e]
        exact hW i hi
    · obtain ⟨t, _, t2, t3⟩ := val v hv e
      rw [t2, nb_pow, decide_eq_true_eq] at h
      rw [← h]
      exact t3
  obtain ⟨_, a2, a3⟩ := h0
  obtain ⟨_, b2, b3⟩ := h1
  obtain ⟨f1, f2, f3, f4⟩ := fx 0 xs a2
  obtain ⟨g1, g2, g3, g4⟩ := fx 1 ys b2
  have w0 := ((zk_full f1 f2).1).fx (W' := W) f3 f4
  have w1 := ((zk_full g1 g2).2).fx (W' := W) g3 g4
  exact WinS.no ho w0 w1 (a3.mpr rfl) ⟨hq, fun z => absurd (b3.mp z) (by decide)⟩
end
