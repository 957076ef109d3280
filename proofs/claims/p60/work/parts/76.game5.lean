/-! THE PURE PART, games: the solver; the kept row is accepted. -/
section
def upW (W : Nat → Nat) (v x i : Nat) : Nat := if i = v then x else W i
def lwO (own w W : Nat → Nat) (s q pl v : Nat) : Nat → Nat → Nat
  | 0, j => j
  | k + 1, j => if (W v).testBit j = true ∧ (zkN own w (upW W v (2 ^ j)) s 48 (2 ^ s - 1)).testBit q = decide (pl = 0) then j else lwO own w W s q pl v k (j + 1)
theorem lwO_spec {own w W : Nat → Nat} {s q pl v : Nat} : ∀ k j, lwO own w W s q pl v k j ≤ j + k ∧ (lwO own w W s q pl v k j < j + k → (W v).testBit (lwO own w W s q pl v k j) = true ∧ (zkN own w (upW W v (2 ^ lwO own w W s q pl v k j)) s 48 (2 ^ s - 1)).testBit q = decide (pl = 0)) ∧ (lwO own w W s q pl v k j = j + k → ∀ i, j ≤ i → i < j + k → ¬ ((W v).testBit i = true ∧ (zkN own w (upW W v (2 ^ i)) s 48 (2 ^ s - 1)).testBit q = decide (pl = 0)))
  | 0, j => ⟨Nat.le_refl _, fun h => absurd h (Nat.lt_irrefl _), fun _ i h1 h2 => by omega⟩
  | k + 1, j => by
    rw [lwO]
    by_cases h : (W v).testBit j = true ∧ (zkN own w (upW W v (2 ^ j)) s 48 (2 ^ s - 1)).testBit q = decide (pl = 0)
    · rw [if_pos h]
      exact ⟨by omega, fun _ => h, fun z => by omega⟩
    · rw [if_neg h]
      obtain ⟨a, b, c⟩ := lwO_spec (own := own) (w := w) (W := W) (s := s) (q := q) (pl := pl) (v := v) k (j + 1)
      refine ⟨by omega, fun z => b (by omega), fun z i h1 h2 => ?_⟩
      by_cases e : i = j
      · subst e
        exact h
      · exact c (by omega) i (by omega) (by omega)
/-- pl wins from q -/
def wonP (own w W : Nat → Nat) (s q pl : Nat) : Prop := (zkN own w W s 48 (2 ^ s - 1)).testBit q = decide (pl = 0)
theorem won_win {s q pl : Nat} {own w W : Nat → Nat} (hB : gmB s own w W) (hW : ∀ i, i < s → ∃ u, u < s ∧ (W i).testBit u = true) (hq : q < s) (hpl : pl ≤ 1) (h : wonP own w W s q pl) : ∃ X, X q ∧ WinS own w W (fun v => v < s) X pl := by
  obtain ⟨a, b⟩ := zk_full hB hW
  unfold wonP at h
  rcases Nat.eq_zero_or_pos pl with z | z
  · subst z
    exact ⟨_, h, a⟩
  · have : pl = 1 := by omega
    subst this
    exact ⟨_, ⟨hq, fun y => by rw [y] at h; exact absurd h (by decide)⟩, b⟩
theorem win_won {s q pl : Nat} {own w W : Nat → Nat} {X : Nat → Prop} (hB : gmB s own w W) (hW : ∀ i, i < s → ∃ u, u < s ∧ (W i).testBit u = true) (hq : q < s) (hpl : pl ≤ 1) (hx : X q) (h : WinS own w W (fun v => v < s) X pl) : wonP own w W s q pl := by
  obtain ⟨a, b⟩ := zk_full hB hW
  have ho : ∀ v, v < s → own v = 0 ∨ own v = 1 := fun v hv => by have := (hB.2 v hv).1; omega
  unfold wonP
  rcases Nat.eq_zero_or_pos pl with z | z
  · subst z
    cases e : (zkN own w W s 48 (2 ^ s - 1)).testBit q with
    | true => rfl
    | false => exact (WinS.no ho h b hx ⟨hq, by rw [e]; decide⟩).elim
  · have : pl = 1 := by omega
    subst this
    cases e : (zkN own w W s 48 (2 ^ s - 1)).testBit q with
    | false => rfl
    | true => exact (WinS.no ho a h e hx).elim
/-- one way can be kept at each node -/
theorem way_ex {s q pl j : Nat} {own w W : Nat → Nat} (hB : gmB s own w W) (hW : ∀ i, i < s → ∃ u, u < s ∧ (W i).testBit u = true) (hq : q < s) (hpl : pl ≤ 1) (hj : j < s) (ho : own j = pl) (h : wonP own w W s q pl) : ∃ u, u < s ∧ (W j).testBit u = true ∧ wonP own w (upW W j (2 ^ u)) s q pl := by
  obtain ⟨X, hx, hw⟩ := won_win hB hW hq hpl h
  obtain ⟨a1, σ, a2, a3, a4⟩ := hw
  have pick : ∃ u, u < s ∧ (W j).testBit u = true ∧ (X j → σ j = u ∧ X u) := by
    by_cases c : X j
    · obtain ⟨b1, b2⟩ := a2 j c ho
      exact ⟨σ j, a1 _ b2, b1, fun _ => ⟨rfl, b2⟩⟩
    · obtain ⟨u, u1, u2⟩ := hW j hj
      exact ⟨u, u1, u2, fun z => absurd z c⟩
  obtain ⟨u, u1, u2, u3⟩ := pick
  have nj : ∀ v, v ≠ j → upW W j (2 ^ u) v = W v := fun v hv => if_neg hv
  have jj : upW W j (2 ^ u) j = 2 ^ u := if_pos rfl
  have hB2 : gmB s own w (upW W j (2 ^ u)) := ⟨hB.1, fun i hi => ⟨(hB.2 i hi).1, (hB.2 i hi).2.1, by
    by_cases e : i = j
    · rw [e, jj]
      exact nb_p2 u1
    · rw [nj i e]
      exact (hB.2 i hi).2.2⟩⟩
  have hW2 : ∀ i, i < s → ∃ t, t < s ∧ (upW W j (2 ^ u) i).testBit t = true := fun i hi => by
    by_cases e : i = j
    · exact ⟨u, u1, by rw [e, jj, nb_pow]; exact decide_eq_true rfl⟩
    · rw [nj i e]
      exact hW i hi
  refine ⟨u, u1, u2, win_won hB2 hW2 hq hpl hx ⟨a1, σ, fun v hv e => ?_, fun v hv e t ht hw => ?_, fun p hp => a4 p fun n => ⟨(hp n).1, ?_, (hp n).2.2⟩⟩⟩
  · by_cases z : v = j
    · subst z
      obtain ⟨c1, c2⟩ := u3 hv
      rw [jj, c1, nb_pow]
      exact ⟨decide_eq_true rfl, c2⟩
    · rw [nj v z]
      exact a2 v hv e
  · have z : v ≠ j := fun z => e (by rw [z]; exact ho)
    rw [nj v z] at hw
    exact a3 v hv e t ht hw
  · have := (hp n).2.1
    by_cases z : p n = j
    · have e : own (p n) = pl := by rw [z]; exact ho
      rw [(hp n).2.2 e]
      exact (a2 _ (hp n).1 e).1
    · rw [nj _ z] at this
      exact this
theorem T_leastWay {F s q pl v : Nat} {own w W : Nat → Nat} {V : mV} (hF : 2 ^ 10 ≤ F) (hB : gmB s own w W) (hV : gmS V s own w W) (hq : q < s) (hpl : pl ≤ 1) (hv : v < s) (hl : lwO own w W s q pl v s 0 < s) : mTo (mX6_leastWay F (nI v) (nI pl) (nI q) V) (fun p => p.1 = nI (lwO own w W s q pl v s 0) ∧ gmS p.2 s own w (upW W v (2 ^ lwO own w W s q pl v s 0))) := by
  have s7 := hB.1
  have p7 : (2 : Nat) ^ s ≤ 2 ^ 7 := Nat.pow_le_pow_right (by decide) s7
  have p2 := Nat.two_pow_pos s
  have Wl := (hB.2 v hv).2.2
  have up2 : ∀ x y, upW (upW W v x) v y = upW W v y := fun x y => by
    funext i
    unfold upW
    by_cases e : i = v
    · rw [if_pos e, if_pos e]
    · rw [if_neg e, if_neg e, if_neg e]
  have upId : upW W v (W v) = W := by
    funext i
    unfold upW
    by_cases e : i = v
    · rw [if_pos e, e]
    · rw [if_neg e]
  have go : ∀ k' j x (V : mV), s < j + k' → j ≤ s → lwO own w W s q pl v (s - j) j < s → gmS V s own w (upW W v x) → mTo (mX6_leastWay_go F k' 0 (nI v) (nI pl) (nI q) (nI (W v)) (nI j) V) (fun p => p.1 = nI (lwO own w W s q pl v (s - j) j) ∧ gmS p.2 s own w (upW W v (2 ^ lwO own w W s q pl v (s - j) j))) := by
    intro k'
    induction k' with
    | zero => intro j x V h1 h2; omega
    | succ k ih =>
      intro j x V h1 h2 h3 hV
      rw [mX6_leastWay_go, if_pos rfl]
      unfold mX6_leastWay_b0
      refine mTo.le hV.1 rfl (by omega) (by omega) (fun h => ?_) (fun h => ?_)
      · have : s - j = 0 := by omega
        rw [this] at h3
        have h3 : j < s := h3
        omega
      · have g := ih (j + 1)
        have e : s - j = s - (j + 1) + 1 := by omega
        rw [e] at h3 ⊢
        rw [lwO] at h3 ⊢
        refine mTo.hs rfl rfl (by omega) (by omega) (fun hb => mTo.lt ?_) (fun hb => mTo.ix rfl (by omega) (by omega) (mTo.lt ?_))
        · rw [if_neg (fun z => by rw [hb] at z; exact absurd z.1 (by decide))] at h3 ⊢
          rw [nI_1]
          exact g x V (by omega) (by omega) h3 hV
        · have hV2 := hV.f (j := v) (u := j) (by omega)
          have ef : (fun i => if i = v then 2 ^ j else upW W v x i) = upW W v (2 ^ j) := up2 x (2 ^ j)
          rw [ef] at hV2
          have hB2 : gmB s own w (upW W v (2 ^ j)) := ⟨s7, fun i hi => ⟨(hB.2 i hi).1, (hB.2 i hi).2.1, by
            unfold upW
            by_cases z : i = v
            · rw [if_pos z]
              exact nb_p2 h
            · rw [if_neg z]
              exact (hB.2 i hi).2.2⟩⟩
          have zl := (zk_sub (own := own) (w := w) (W := upW W v (2 ^ j)) (s := s) 48 (2 ^ s - 1) (by omega)).1
          rw [nb_one (by omega)]
          refine mTo.N (T_zk hF hB2 hV2) (fun a _ ha => ?_)
          subst ha
          have yes : (zkN own w (upW W v (2 ^ j)) s 48 (2 ^ s - 1)).testBit q = decide (pl = 0) → mTo (some (nI j, mI V 90 (nI v) (nI (2 ^ j)))) (fun p => p.1 = nI (if (W v).testBit j = true ∧ (zkN own w (upW W v (2 ^ j)) s 48 (2 ^ s - 1)).testBit q = decide (pl = 0) then j else lwO own w W s q pl v (s - (j + 1)) (j + 1)) ∧ gmS p.2 s own w (upW W v (2 ^ (if (W v).testBit j = true ∧ (zkN own w (upW W v (2 ^ j)) s 48 (2 ^ s - 1)).testBit q = decide (pl = 0) then j else lwO own w W s q pl v (s - (j + 1)) (j + 1))))) := fun z => by
            rw [if_pos ⟨hb, z⟩]
            exact mTo.ret ⟨rfl, hV2⟩
          have no : ¬ (zkN own w (upW W v (2 ^ j)) s 48 (2 ^ s - 1)).testBit q = decide (pl = 0) → mTo (mX6_leastWay_go F k 0 (nI v) (nI pl) (nI q) (nI (W v)) (nI j + 1) (mI V 90 (nI v) (nI (2 ^ j)))) (fun p => p.1 = nI (if (W v).testBit j = true ∧ (zkN own w (upW W v (2 ^ j)) s 48 (2 ^ s - 1)).testBit q = decide (pl = 0) then j else lwO own w W s q pl v (s - (j + 1)) (j + 1)) ∧ gmS p.2 s own w (upW W v (2 ^ (if (W v).testBit j = true ∧ (zkN own w (upW W v (2 ^ j)) s 48 (2 ^ s - 1)).testBit q = decide (pl = 0) then j else lwO own w W s q pl v (s - (j + 1)) (j + 1))))) := fun z => by
            rw [if_neg (fun y => z y.2)] at h3 ⊢
            rw [nI_1]
            exact g _ _ (by omega) (by omega) h3 hV2
          cases hz : (zkN own w (upW W v (2 ^ j)) s 48 (2 ^ s - 1)).testBit q with
          | true =>
            refine mTo.so (nb_hasT (by omega) (by omega) hz) (mTo.eqI (b := 0) rfl rfl (by omega) (by omega) (fun z => ?_) (fun z => ?_))
            · rw [if_pos rfl]
              have := yes (by rw [hz, decide_eq_true z])
              rw [hz] at this
              exact this
            · rw [if_neg (by decide)]
              have := no (by rw [hz, decide_eq_false z]; decide)
              rw [hz] at this
              exact this
          | false =>
            refine mTo.so (nb_hasF (by omega) (by omega) hz) (mTo.eqI (b := 0) rfl rfl (by omega) (by omega) (fun z => ?_) (fun z => ?_))
            · rw [if_neg (by decide)]
              have := no (by rw [hz, decide_eq_true z]; decide)
              rw [hz] at this
              exact this
            · rw [if_pos rfl]
              have := yes (by rw [hz, decide_eq_false z])
              rw [hz] at this
              exact this
  unfold mX6_leastWay mX6_leastWay_s
  refine mTo.ix rfl (by omega) (by omega) (mTo.lt ?_)
  rw [nI_clamp (by omega), (hV.2 v hv).2.2]
  exact go F 0 (W v) V (by omega) (Nat.zero_le _) hl (by rw [upId]; exact hV)
/-- the ways behind the first j nodes, and the row -/
def sgW (own w W : Nat → Nat) (s q pl : Nat) : Nat → (Nat → Nat)
  | 0 => W
  | j + 1 => if own j = pl then upW (sgW own w W s q pl j) j (2 ^ lwO own w (sgW own w W s q pl j) s q pl j s 0) else sgW own w W s q pl j
def rowX (own w W : Nat → Nat) (s q pl : Nat) : Nat → List Int32
  | 0 => []
  | j + 1 => rowX own w W s q pl j ++ [if own j = pl then nI (lwO own w (sgW own w W s q pl j) s q pl j s 0) else -1]
theorem rowX_len {own w W : Nat → Nat} {s q pl : Nat} : ∀ n, (rowX own w W s q pl n).length = n
  | 0 => rfl
  | n + 1 => by
    rw [rowX, List.length_append, rowX_len n]
    rfl
theorem rowX_at {own w W : Nat → Nat} {s q pl i : Nat} : ∀ n, i < n → (rowX own w W s q pl n).getD i 0 = if own i = pl then nI (lwO own w (sgW own w W s q pl i) s q pl i s 0) else -1
  | 0, h => absurd h (Nat.not_lt_zero _)
  | n + 1, h => by
    rw [rowX, getD_snoc, rowX_len]
    by_cases e : i < n
    · rw [if_pos e]
      exact rowX_at n e
    · have : i = n := by omega
      rw [if_neg e, if_pos this, this]
theorem sgW_ok {s q pl : Nat} {own w W : Nat → Nat} (hB : gmB s own w W) (hW : ∀ i, i < s → ∃ u, u < s ∧ (W i).testBit u = true) (hq : q < s) (hpl : pl ≤ 1) (h : wonP own w W s q pl) : ∀ j, j ≤ s → gmB s own w (sgW own w W s q pl j) ∧ (∀ i, i < s → ∃ u, u < s ∧ (sgW own w W s q pl j i).testBit u = true) ∧ wonP own w (sgW own w W s q pl j) s q pl ∧ (∀ i, j ≤ i → sgW own w W s q pl j i = W i) ∧ ∀ i, i < j → (own i = pl → lwO own w (sgW own w W s q pl i) s q pl i s 0 < s ∧ sgW own w W s q pl j i = 2 ^ lwO own w (sgW own w W s q pl i) s q pl i s 0 ∧ (W i).testBit (lwO own w (sgW own w W s q pl i) s q pl i s 0) = true) ∧ (own i ≠ pl → sgW own w W s q pl j i = W i) := by
  intro j
  induction j with
  | zero => exact fun _ => ⟨hB, hW, h, fun i _ => rfl, fun i hi => absurd hi (Nat.not_lt_zero _)⟩
  | succ j ih =>
    intro hj
    obtain ⟨b1, b2, b3, b4, b5⟩ := ih (by omega)
    rw [sgW]
    by_cases e : own j = pl
    · rw [if_pos e]
      obtain ⟨u, u1, u2, u3⟩ := way_ex b1 b2 hq hpl (show j < s by omega) e b3
      obtain ⟨l1, l2, l3⟩ := lwO_spec (own := own) (w := w) (W := sgW own w W s q pl j) (s := s) (q := q) (pl := pl) (v := j) s 0
      rw [Nat.zero_add] at l1 l2 l3
      have lt : lwO own w (sgW own w W s q pl j) s q pl j s 0 < s := by
        rcases Nat.lt_or_ge (lwO own w (sgW own w W s q pl j) s q pl j s 0) s with z | z
        · exact z
        · exact absurd ⟨u2, u3⟩ (l3 (by omega) u (Nat.zero_le _) u1)
      obtain ⟨c1, c2⟩ := l2 lt
      have wj : (W j).testBit (lwO own w (sgW own w W s q pl j) s q pl j s 0) = true := by
        rw [← b4 j (Nat.le_refl _)]
        exact c1
      refine ⟨⟨b1.1, fun i hi => ⟨(b1.2 i hi).1, (b1.2 i hi).2.1, ?_⟩⟩, fun i hi => ?_, c2, fun i hi => ?_, fun i hi => ?_⟩
      · unfold upW
        by_cases z : i = j
        · rw [if_pos z]
          exact nb_p2 lt
        · rw [if_neg z]
          exact (b1.2 i hi).2.2
      · unfold upW
        by_cases z : i = j
        · rw [if_pos z]
          exact ⟨_, lt, by rw [nb_pow]; exact decide_eq_true rfl⟩
        · rw [if_neg z]
          exact b2 i hi
      · unfold upW
        rw [if_neg (by omega)]
        exact b4 i (by omega)
      · by_cases z : i = j
        · subst z
          refine ⟨fun _ => ⟨lt, if_pos rfl, wj⟩, fun y => absurd e y⟩
        · obtain ⟨d1, d2⟩ := b5 i (by omega)
          refine ⟨fun y => ?_, fun y => ?_⟩
          · obtain ⟨f1, f2, f3⟩ := d1 y
            exact ⟨f1, by unfold upW; rw [if_neg z]; exact f2, f3⟩
          · unfold upW
            rw [if_neg z]
            exact d2 y
    · rw [if_neg e]
      refine ⟨b1, b2, b3, fun i hi => b4 i (by omega), fun i hi => ?_⟩
      by_cases z : i = j
      · subst z
        exact ⟨fun y => absurd y e, fun _ => b4 i (Nat.le_refl _)⟩
      · exact b5 i (by omega)
/-- the kept row is accepted -/
theorem rowX_ok {s q pl : Nat} {own w W : Nat → Nat} (hB : gmB s own w W) (hW : ∀ i, i < s → ∃ u, u < s ∧ (W i).testBit u = true) (hq : q < s) (hpl : pl ≤ 1) (h : wonP own w W s q pl) : gameOK s own w W q pl (rowX own w W s q pl s) := by
  have s7 := hB.1
  obtain ⟨b1, b2, b3, b4, b5⟩ := sgW_ok hB hW hq hpl h s (Nat.le_refl _)
  have ef : fxW own W pl (rowX own w W s q pl s) s = sgW own w W s q pl s := by
    funext v
    unfold fxW
    by_cases e : v < s ∧ own v = pl
    · obtain ⟨c1, c2, _⟩ := (b5 v e.1).1 e.2
      rw [if_pos e, c2, pX_eq (by rw [rowX_at s e.1, if_pos e.2]) (by omega)]
    · rw [if_neg e]
      rcases Nat.lt_or_ge v s with z | z
      · exact ((b5 v z).2 (fun y => e ⟨z, y⟩)).symm
      · exact (b4 v z).symm
  refine ⟨rowX_len s, fun v hv => ⟨fun e => ?_, fun e => ?_⟩, ?_⟩
  · rw [rowX_at s hv, if_neg e]
  · obtain ⟨c1, _, c3⟩ := (b5 v hv).1 e
    exact ⟨_, c1, by rw [rowX_at s hv, if_pos e], c3⟩
  · rw [ef, b3, decide_eq_true_eq]
def wpl (own w W : Nat → Nat) (s q : Nat) : Nat := if (zkN own w W s 48 (2 ^ s - 1)).testBit q = true then 0 else 1
theorem wpl_ok {own w W : Nat → Nat} {s q : Nat} : wpl own w W s q ≤ 1 ∧ wonP own w W s q (wpl own w W s q) := by
  unfold wpl wonP
  cases e : (zkN own w W s 48 (2 ^ s - 1)).testBit q with
  | true =>
    rw [if_pos rfl]
    exact ⟨by omega, rfl⟩
  | false =>
    rw [if_neg (by decide)]
    exact ⟨by omega, rfl⟩
theorem T_solveGames {F e s m b : Nat} {Ln : Nat → Nat} {d : Nat → Int32} {own w W : Nat → Nat} {V : mV} (hF : 2 ^ 22 ≤ F) (he : 256 ≤ e) (he2 : e < 1024) (hk : mK (e + 2) = 9) (hs : s ≤ 7) (h0 : 0 < s) (hm : m ≤ 8) (hb : b < 2 ^ 20) (hd : qX d m s own w W) (hq : enQ V e s m (nI b) d) (hr : rowIs Ln V (e + 2) []) : mTo (mX6_solveGames F Ln e V) (fun p => p.2.2.fI e 11 = (if wpl own w W s (qN s b) = 0 then (121 : Int32) else 110) ∧ p.2.2.fI e 12 = nI (pop (zkN own w W s 48 (2 ^ s - 1))) ∧ rowIs p.2.1 p.2.2 (e + 2) (rowX own w W s (qN s b) (wpl own w W s (qN s b)) s)) := by
  have hB := qX_b hs hd
  have hW := qX_w hs hd
  have ql := qN_lt (s := s) (b := b) h0
  have p7 : (2 : Nat) ^ s ≤ 2 ^ 7 := Nat.pow_le_pow_right (by decide) hs
  have p2 := Nat.two_pow_pos s
  have zl := (zk_sub (own := own) (w := w) (W := W) (s := s) 48 (2 ^ s - 1) (by omega)).1
  obtain ⟨wl, wo⟩ := wpl_ok (own := own) (w := w) (W := W) (s := s) (q := qN s b)
  have go : ∀ pl, pl ≤ 1 → wonP own w W s (qN s b) pl → ∀ k' j Ln (V : mV), s < j + k' → j ≤ s → gmS V s own w (sgW own w W s (qN s b) pl j) → rowIs Ln V (e + 2) (rowX own w W s (qN s b) pl j) → mTo (mX6_solveGames_go F k' 0 Ln e (nI (qN s b)) (nI pl) (nI j) V) (fun p => rowIs p.2.1 p.2.2 (e + 2) (rowX own w W s (qN s b) pl s)) := by
    intro pl hpl hwon k'
    induction k' with
    | zero => intro j Ln V h1 h2; omega
    | succ k ih =>
      intro j Ln V h1 h2 hV hR
      rw [mX6_solveGames_go, if_pos rfl]
      unfold mX6_solveGames_b0
      refine mTo.le hV.1 rfl (by omega) (by omega) (fun h => mTo.ret ?_) (fun h => mTo.ix rfl (by omega) (by omega) ?_)
      · have : j = s := by omega
        subst this
        exact hR
      · obtain ⟨b1, b2, b3, b4, b5⟩ := sgW_ok hB hW ql hpl hwon j h2
        obtain ⟨c1, c2, c3, c4, c5⟩ := sgW_ok hB hW ql hpl hwon (j + 1) h
        have oj := (hB.2 j h).1
        have g := ih (j + 1)
        rw [sgW, rowX] at g
        have fr : ∀ {L1 : Nat → Nat} {V1 V2 : mV} {G : Nat → Nat}, gmS V1 s own w G → mAv (wX9_add (e + 2)) V1 V2 → gmS V2 s own w G := fun hG f => ⟨by rw [(f.1 8 (by unfold wX9_add; omega)).1]; exact hG.1, fun i hi => by rw [(f.1 88 (by unfold wX9_add; omega)).2.2.1, (f.1 89 (by unfold wX9_add; omega)).2.2.1, (f.1 90 (by unfold wX9_add; omega)).2.2.1]; exact hG.2 i hi⟩
        refine mTo.eqI (by rw [nI_clamp (by omega), (hV.2 j h).1]) rfl (by omega) (by omega) (fun e1 => ?_) (fun e1 => ?_)
        · rw [if_pos e1, if_pos e1] at g
          have lt := ((c5 j (Nat.lt_succ_self _)).1 e1).1
          obtain ⟨p, p1, q⟩ := T_leastWay (F := F) (by omega) b1 hV ql hpl h lt
          have f1 := NX6_leastWay (v := p.1) (V1 := p.2) p1
          refine mTo.W (Q := fun p => p.1 = nI (lwO own w (sgW own w W s (qN s b) pl j) s (qN s b) pl j s 0) ∧ gmS p.2 s own w (upW (sgW own w W s (qN s b) pl j) j (2 ^ lwO own w (sgW own w W s (qN s b) pl j) s (qN s b) pl j s 0))) ⟨p, p1, q⟩ (fun a V1 h3 q' => ?_)
          rw [p1] at h3
          cases h3
          obtain ⟨q1, q2⟩ := q'
          have q1 : a = _ := q1
          subst q1
          have q2 : gmS V1 s own w _ := q2
          refine mTo.A (T_radd hk (hR.mv f1 (by unfold wX6_leastWay; omega) (by unfold wX6_leastWay; omega)) (by rw [rowX_len]; omega)) (fun a L2 V2 _ q3 => mTo.lt ?_)
          obtain ⟨r1, r2, _⟩ := q3
          rw [nI_1]
          exact g L2 V2 (by omega) (by omega) (fr (L1 := L2) q2 r2) r1
        · rw [if_neg e1, if_neg e1] at g
          refine mTo.A (T_radd hk hR (by rw [rowX_len]; omega)) (fun a L2 V2 _ q3 => mTo.lt ?_)
          obtain ⟨r1, r2, _⟩ := q3
          rw [nI_1]
          exact g L2 V2 (by omega) (by omega) (fr (L1 := L2) hV r2) r1
  unfold mX6_solveGames mX6_solveGames_s
  refine mTo.W (T_loadNodes (by omega) he hs hm hd hq) (fun a V1 _ q => mTo.lt ?_)
  obtain ⟨q1, q2⟩ := q
  have q1 : gmS V1 s own w W := q1
  have q2 : mAv (wX6_loadNodes e) V V1 := q2
  have hq1 := hq.mv q2 (by unfold wX6_loadNodes; omega) (by unfold wX6_loadNodes; omega)
  have hr1 := hr.mv q2 (by unfold wX6_loadNodes; omega) (by unfold wX6_loadNodes; omega)
  refine mTo.N (T_zk (by omega) hB q1) (fun a _ ha => mTo.so (T_nodeAsked (by omega) h0 hb hq1) ?_)
  subst ha
  have keep : ∀ V3 : mV, V3.rI = V1.rI → (∀ i, i ≠ e → V3.fI i = V1.fI i) → gmS V3 s own w W ∧ rowIs Ln V3 (e + 2) [] := fun V3 f1 f2 => by
    obtain ⟨a1, a2, a3, a4⟩ := hr1
    exact ⟨⟨by rw [f2 8 (by omega)]; exact q1.1, fun i hi => by rw [f1]; exact q1.2 i hi⟩, by rw [f2 _ (by omega)]; exact a1, a2, a3, fun i hi => by rw [f1]; exact a4 i hi⟩
  have fin : ∀ pl (x : Int32), pl ≤ 1 → wpl own w W s (qN s b) = pl → (if x = 0 then (110 : Int32) else 121) = (if pl = 0 then (121 : Int32) else 110) → mTo (mBN (mJ6_bitCount_0f7a4 F (nI (zkN own w W s 48 (2 ^ s - 1)))) fun v43 => (mBW (mX3_tell F e x (v43) V1) fun v48 V49 => (mX6_solveGames_go F F 0 Ln e (nI (qN s b)) (nI pl) ((0 : Int32)) V49))) (fun p => p.2.2.fI e 11 = (if wpl own w W s (qN s b) = 0 then (121 : Int32) else 110) ∧ p.2.2.fI e 12 = nI (pop (zkN own w W s 48 (2 ^ s - 1))) ∧ rowIs p.2.1 p.2.2 (e + 2) (rowX own w W s (qN s b) (wpl own w W s (qN s b)) s)) := fun pl x hpl hw hx => by
    rw [hw] at wo ⊢
    refine mTo.so (T_pop (by omega)) (mTo.W T_tell (fun a V3 _ q => ?_))
    obtain ⟨t1, t2, _, t4, _, t5⟩ := q
    have t1 : V3.fI e 11 = (if x = 0 then (110 : Int32) else 121) := t1
    have t2 : V3.fI e 12 = _ := t2
    obtain ⟨k1, k2⟩ := keep V3 t4 t5
    obtain ⟨p, e2, r⟩ := go pl hpl wo F 0 Ln V3 (by omega) (Nat.zero_le _) k1 k2
    have fr2 := (NX6_solveGames_go (v := p.1) (Ln1 := p.2.1) (V1 := p.2.2) F _ _ _ _ _ _ e2).1
    have fe : p.2.2.fI e = V3.fI e := (fr2.1 e (by unfold wX6_solveGames_0; omega)).1
    refine ⟨p, e2, ?_, ?_, r⟩
    · rw [fe, t1, hx]
    · rw [fe, t2]
  cases hz : (zkN own w W s 48 (2 ^ s - 1)).testBit (qN s b) with
  | true =>
    refine mTo.so (nb_hasT (by omega) (by omega) hz) ?_
    rw [if_neg (by decide)]
    exact fin 0 1 (by omega) (by unfold wpl; rw [hz, if_pos rfl]) (by decide)
  | false =>
    refine mTo.so (nb_hasF (by omega) (by omega) hz) ?_
    rw [if_pos rfl]
    exact fin 1 0 (by omega) (by unfold wpl; rw [hz, if_neg (by decide)]) (by decide)
end
