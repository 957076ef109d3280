/-! THE PURE PART, games: what is drawn, and what is won, by sets of bits. -/
section
def dr1 (own W : Nat → Nat) (i S v D : Nat) : Nat := if S.testBit v = true ∧ (if own v = i then ((W v &&& S) &&& D) ≠ 0 else nsd (W v &&& S) D = 0) then D ||| 2 ^ v else D
def drR (own W : Nat → Nat) (i S : Nat) : Nat → Nat → Nat
  | 0, D => D
  | k + 1, D => dr1 own W i S k (drR own W i S k D)
def drN (own W : Nat → Nat) (s i S G : Nat) : Nat := it (fun D => drR own W i S s D) s G
theorem nb_ne0 {S : Nat} : S ≠ 0 ↔ ∃ i, S.testBit i = true := by
  constructor
  · intro h
    exact Classical.byContradiction fun z => h (nb_ext fun i => by
      rw [Nat.zero_testBit]
      cases e : S.testBit i with
      | false => rfl
      | true => exact absurd ⟨i, e⟩ z)
  · rintro ⟨i, h⟩ e
    rw [e, Nat.zero_testBit] at h
    exact absurd h (by decide)
/-- the node v is drawn to D -/
def drP (own W : Nat → Nat) (i S v D : Nat) : Prop := S.testBit v = true ∧ ((own v = i ∧ ∃ u, (W v).testBit u = true ∧ S.testBit u = true ∧ D.testBit u = true) ∨ (own v ≠ i ∧ ∀ u, (W v).testBit u = true → S.testBit u = true → D.testBit u = true))
theorem drP_iff {own W : Nat → Nat} {i S v D : Nat} : (S.testBit v = true ∧ (if own v = i then ((W v &&& S) &&& D) ≠ 0 else nsd (W v &&& S) D = 0)) ↔ drP own W i S v D := by
  unfold drP
  by_cases e : own v = i
  · rw [if_pos e, nb_ne0]
    refine and_congr Iff.rfl ⟨fun ⟨u, hu⟩ => Or.inl ⟨e, u, ?_⟩, fun h => ?_⟩
    · rw [Nat.testBit_and, Nat.testBit_and, Bool.and_eq_true, Bool.and_eq_true] at hu
      exact ⟨hu.1.1, hu.1.2, hu.2⟩
    · rcases h with ⟨_, u, u1, u2, u3⟩ | ⟨h, _⟩
      · exact ⟨u, by rw [Nat.testBit_and, Nat.testBit_and, u1, u2, u3]; rfl⟩
      · exact absurd e h
  · rw [if_neg e]
    refine and_congr Iff.rfl ⟨fun h => Or.inr ⟨e, fun u u1 u2 => ?_⟩, fun h => ?_⟩
    · have := nsd_bit (W v &&& S) D u
      rw [h, Nat.zero_testBit, Nat.testBit_and, u1, u2] at this
      cases z : D.testBit u with
      | true => rfl
      | false => rw [z] at this; exact absurd this (by decide)
    · rcases h with ⟨h, _⟩ | ⟨_, h⟩
      · exact absurd h e
      · exact nb_ext fun u => by
          rw [Nat.zero_testBit, nsd_bit, Nat.testBit_and]
          cases a : (W v).testBit u with
          | false => rfl
          | true =>
            cases b : S.testBit u with
            | false => rfl
            | true => rw [h u a b]; rfl
theorem dr1_inc {own W : Nat → Nat} {i S v D j : Nat} (h : D.testBit j = true) : (dr1 own W i S v D).testBit j = true := by
  unfold dr1
  by_cases c : S.testBit v = true ∧ (if own v = i then ((W v &&& S) &&& D) ≠ 0 else nsd (W v &&& S) D = 0)
  · rw [if_pos c, Nat.testBit_or, h]
    rfl
  · rw [if_neg c]
    exact h
theorem drR_inc {own W : Nat → Nat} {i S D j : Nat} (h : D.testBit j = true) : ∀ k, (drR own W i S k D).testBit j = true
  | 0 => h
  | k + 1 => dr1_inc (drR_inc h k)
theorem drR_inc2 {own W : Nat → Nat} {i S D j k : Nat} (h : (drR own W i S k D).testBit j = true) : ∀ t, (drR own W i S (k + t) D).testBit j = true
  | 0 => h
  | t + 1 => dr1_inc (drR_inc2 h t)
theorem dr1_lt {own W : Nat → Nat} {i S v D n : Nat} (h : D < 2 ^ n) (hv : v < n) : dr1 own W i S v D < 2 ^ n := by
  unfold dr1
  by_cases c : S.testBit v = true ∧ (if own v = i then ((W v &&& S) &&& D) ≠ 0 else nsd (W v &&& S) D = 0)
  · rw [if_pos c]
    exact nb_or_lt h (nb_p2 hv)
  · rw [if_neg c]
    exact h
theorem drR_lt {own W : Nat → Nat} {i S D n : Nat} (h : D < 2 ^ n) : ∀ k, k ≤ n → drR own W i S k D < 2 ^ n
  | 0, _ => h
  | k + 1, hk => dr1_lt (drR_lt h k (by omega)) (by omega)
theorem drR_fix {own W : Nat → Nat} {i S D n : Nat} (h : drR own W i S n D = D) {v : Nat} (hv : v < n) (hp : drP own W i S v D) : D.testBit v = true := by
  have fx : ∀ k, k ≤ n → drR own W i S k D = D := fun k hk => nb_ext fun j => by
    cases e : D.testBit j with
    | true => exact drR_inc e k
    | false =>
      cases z : (drR own W i S k D).testBit j with
      | false => rfl
      | true =>
        have := drR_inc2 z (n - k)
        rw [show k + (n - k) = n by omega, h, e] at this
        exact this.symm
  have a := fx v (by omega)
  have b := fx (v + 1) hv
  rw [drR, a] at b
  unfold dr1 at b
  rw [if_pos (drP_iff.mpr hp)] at b
  rw [← b, Nat.testBit_or, nb_pow, decide_eq_true rfl, Bool.or_true]
def rkD (own W : Nat → Nat) (n i S G D : Nat) : Prop := (∀ v, G.testBit v = true → D.testBit v = true) ∧ (∀ v, D.testBit v = true → S.testBit v = true) ∧ ∃ d : Nat → Nat, (∀ x, D.testBit x = true → d x < cnt (fun i => D.testBit i) n) ∧ ∀ v, D.testBit v = true → G.testBit v = false → (own v = i → ∃ u, (W v).testBit u = true ∧ D.testBit u = true ∧ d u < d v) ∧ (own v ≠ i → ∀ u, S.testBit u = true → (W v).testBit u = true → D.testBit u = true ∧ d u < d v)
theorem rkD_1 {own W : Nat → Nat} {n i S G D v : Nat} (hv : v < n) (h : rkD own W n i S G D) : rkD own W n i S G (dr1 own W i S v D) := by
  unfold dr1
  by_cases c : S.testBit v = true ∧ (if own v = i then ((W v &&& S) &&& D) ≠ 0 else nsd (W v &&& S) D = 0)
  · rw [if_pos c]
    have c := drP_iff.mp c
    by_cases hD : D.testBit v = true
    · have : D ||| 2 ^ v = D := nb_ext fun j => by
        rw [Nat.testBit_or, nb_pow]
        by_cases e : v = j
        · subst e
          rw [hD]
          rfl
        · rw [decide_eq_false e, Bool.or_false]
      rw [this]
      exact h
    · have hD : D.testBit v = false := Bool.eq_false_iff.mpr hD
      obtain ⟨h1, h2, d, h3, h4⟩ := h
      have bit : ∀ j, (D ||| 2 ^ v).testBit j = true ↔ D.testBit j = true ∨ j = v := fun j => by
        rw [Nat.testBit_or, nb_pow, Bool.or_eq_true, decide_eq_true_eq]
        exact ⟨fun h => h.elim Or.inl (fun z => Or.inr z.symm), fun h => h.elim Or.inl (fun z => Or.inr z.symm)⟩
      have lt : cnt (fun i => D.testBit i) n < cnt (fun i => (D ||| 2 ^ v).testBit i) n := cnt_lt (fun j _ hj => (bit j).mpr (Or.inl hj)) hv hD ((bit v).mpr (Or.inr rfl))
      have ne : ∀ j, D.testBit j = true → j ≠ v := fun j hj e => by rw [e, hD] at hj; exact absurd hj (by decide)
      refine ⟨fun j hj => (bit j).mpr (Or.inl (h1 j hj)), fun j hj => ?_, va_up d v (cnt (fun i => D.testBit i) n), fun j hj => ?_, fun j hj hg => ?_⟩
      · rcases (bit j).mp hj with z | z
        · exact h2 j z
        · rw [z]
          exact c.1
      · by_cases e : j = v
        · subst e
          rw [mUp_eq]
          exact lt
        · rw [mUp_ne _ _ e]
          have := h3 j (((bit j).mp hj).resolve_right e)
          show d j < cnt (fun i => (D ||| 2 ^ v).testBit i) n
          omega
      · by_cases e : j = v
        · subst e
          rw [mUp_eq]
          rcases c.2 with ⟨c1, u, u1, u2, u3⟩ | ⟨c1, c2⟩
          · refine ⟨fun _ => ⟨u, u1, (bit u).mpr (Or.inl u3), ?_⟩, fun z => absurd c1 z⟩
            rw [mUp_ne _ _ (ne u u3)]
            exact h3 u u3
          · refine ⟨fun z => absurd z c1, fun _ u u1 u2 => ?_⟩
            have u3 := c2 u u2 u1
            refine ⟨(bit u).mpr (Or.inl u3), ?_⟩
            rw [mUp_ne _ _ (ne u u3)]
            exact h3 u u3
        · obtain ⟨k1, k2⟩ := h4 j (((bit j).mp hj).resolve_right e) hg
          rw [mUp_ne _ _ e]
          refine ⟨fun z => ?_, fun z u u1 u2 => ?_⟩
          · obtain ⟨u, u1, u2, u3⟩ := k1 z
            refine ⟨u, u1, (bit u).mpr (Or.inl u2), ?_⟩
            rw [mUp_ne _ _ (ne u u2)]
            exact u3
          · obtain ⟨u3, u4⟩ := k2 z u u1 u2
            refine ⟨(bit u).mpr (Or.inl u3), ?_⟩
            rw [mUp_ne _ _ (ne u u3)]
            exact u4
  · rw [if_neg c]
    exact h
theorem rkD_R {own W : Nat → Nat} {n i S G D : Nat} (h : rkD own W n i S G D) : ∀ k, k ≤ n → rkD own W n i S G (drR own W i S k D)
  | 0, _ => h
  | k + 1, hk => rkD_1 (by omega) (rkD_R h k (by omega))
theorem drN_lt {own W : Nat → Nat} {s i S G : Nat} (hG : G < 2 ^ s) : drN own W s i S G < 2 ^ s := it_lt hG (fun _ h => drR_lt h s (Nat.le_refl _)) s
theorem drN_ok {own W : Nat → Nat} {s i S G : Nat} (hS : S < 2 ^ s) (hG : G < 2 ^ s) (hGS : ∀ v, G.testBit v = true → S.testBit v = true) : ∃ d, drawn own W (fun v => S.testBit v = true) (fun v => G.testBit v = true) (fun v => (drN own W s i S G).testBit v = true) i d := by
  have rk : ∀ k, rkD own W s i S G (it (fun D => drR own W i S s D) k G) := fun k => by
    induction k with
    | zero => exact ⟨fun v h => h, hGS, fun _ => 0, fun x hx => cnt_pos (X := fun i => G.testBit i) hx (by
        rcases Nat.lt_or_ge x s with z | z
        · exact z
        · have hx : G.testBit x = true := hx
          rw [nb_big hG z] at hx
          exact absurd hx (by decide)), fun v h1 h2 => by rw [show G.testBit v = true from h1] at h2; exact absurd h2 (by decide)⟩
    | succ k ih => exact rkD_R ih s (Nat.le_refl _)
  obtain ⟨r1, r2, d, r3, r4⟩ := rk s
  have fx : drR own W i S s (drN own W s i S G) = drN own W s i S G := it_stab hG (fun _ h => drR_lt h s (Nat.le_refl _)) (fun _ _ _ h => drR_inc h s)
  have lt : ∀ v, S.testBit v = true → v < s := fun v hv => by
    rcases Nat.lt_or_ge v s with z | z
    · exact z
    · rw [nb_big hS z] at hv
      exact absurd hv (by decide)
  refine ⟨d, r1, r2, fun v hD hg e => (r4 v hD (Bool.eq_false_iff.mpr hg)).1 e, fun v hD hg e => (r4 v hD (Bool.eq_false_iff.mpr hg)).2 e, fun v hv hD e u hu hw => ?_, fun v hv hD e => ?_⟩
  · exact hD (drR_fix fx (lt v hv) ⟨hv, Or.inl ⟨e, u, hw, r2 u hu, hu⟩⟩)
  · exact Classical.byContradiction fun z => hD (drR_fix fx (lt v hv) ⟨hv, Or.inr ⟨e, fun u u1 u2 => Classical.byContradiction fun y => z ⟨u, u1, u2, y⟩⟩⟩)
/-- the greatest weight in a set, 5 at most -/
def gwN (w : Nat → Nat) (S : Nat) : Nat → Nat
  | 0 => 0
  | k + 1 => if S.testBit k = true then max (gwN w S k) (w k) else gwN w S k
theorem gwN_ge {w : Nat → Nat} {S v : Nat} (hv : S.testBit v = true) : ∀ n, v < n → w v ≤ gwN w S n
  | 0, h => absurd h (Nat.not_lt_zero _)
  | n + 1, h => by
    rw [gwN]
    by_cases e : v = n
    · subst e
      rw [if_pos hv]
      omega
    · have := gwN_ge (w := w) hv n (by omega)
      by_cases c : S.testBit n = true
      · rw [if_pos c]
        omega
      · rw [if_neg c]
        exact this
theorem gwN_ex {w : Nat → Nat} {S : Nat} : ∀ n, (∃ v, v < n ∧ S.testBit v = true) → ∃ v, v < n ∧ S.testBit v = true ∧ w v = gwN w S n
  | 0, ⟨v, h, _⟩ => absurd h (Nat.not_lt_zero _)
  | n + 1, h => by
    rw [gwN]
    by_cases c : S.testBit n = true
    · rw [if_pos c]
      rcases Nat.le_total (gwN w S n) (w n) with z | z
      · rw [Nat.max_eq_right z]
        exact ⟨n, by omega, c, rfl⟩
      · rw [Nat.max_eq_left z]
        by_cases e : ∃ v, v < n ∧ S.testBit v = true
        · obtain ⟨v, v1, v2, v3⟩ := gwN_ex n e
          exact ⟨v, by omega, v2, v3⟩
        · have g0 : gwN w S n = 0 := by
            have : ∀ k, k ≤ n → gwN w S k = 0 := fun k => by
              induction k with
              | zero => exact fun _ => rfl
              | succ k ih =>
                intro hk
                rw [gwN, if_neg (fun y => e ⟨k, by omega, y⟩)]
                exact ih (by omega)
            exact this n (Nat.le_refl _)
          exact ⟨n, by omega, c, by omega⟩
    · rw [if_neg c]
      obtain ⟨v, v1, v2⟩ := h
      obtain ⟨x, x1, x2, x3⟩ := gwN_ex (w := w) (S := S) n ⟨v, by
        rcases Nat.lt_or_ge v n with z | z
        · exact z
        · have : v = n := by omega
          rw [this] at v2
          exact absurd v2 c, v2⟩
      exact ⟨x, by omega, x2, x3⟩
def wwN (w : Nat → Nat) (S c : Nat) : Nat → Nat
  | 0 => 0
  | k + 1 => if S.testBit k = true ∧ w k = c then wwN w S c k ||| 2 ^ k else wwN w S c k
theorem wwN_bit {w : Nat → Nat} {S c v : Nat} : ∀ n, (wwN w S c n).testBit v = true ↔ v < n ∧ S.testBit v = true ∧ w v = c
  | 0 => by
    rw [wwN, Nat.zero_testBit]
    exact ⟨fun h => absurd h (by decide), fun h => absurd h.1 (Nat.not_lt_zero _)⟩
  | n + 1 => by
    have ih := wwN_bit (w := w) (S := S) (c := c) (v := v) n
    rw [wwN]
    by_cases e : S.testBit n = true ∧ w n = c
    · rw [if_pos e, Nat.testBit_or, nb_pow, Bool.or_eq_true, decide_eq_true_eq, ih]
      constructor
      · rintro (⟨a, b⟩ | a)
        · exact ⟨by omega, b⟩
        · rw [← a]
          exact ⟨by omega, e⟩
      · rintro ⟨a, b⟩
        by_cases z : n = v
        · exact Or.inr z
        · exact Or.inl ⟨by omega, b⟩
    · rw [if_neg e, ih]
      constructor
      · rintro ⟨a, b⟩
        exact ⟨by omega, b⟩
      · rintro ⟨a, b⟩
        by_cases z : v = n
        · rw [z] at b
          exact absurd b e
        · exact ⟨by omega, b⟩
theorem wwN_lt {w : Nat → Nat} {S c n : Nat} : wwN w S c n < 2 ^ n := nb_lt fun i hi => by
  cases e : (wwN w S c n).testBit i with
  | false => rfl
  | true =>
    have := ((wwN_bit n).mp e).1
    omega
/-- the nodes from which the player 0 wins -/
def zkN (own w W : Nat → Nat) (s : Nat) : Nat → Nat → Nat
  | 0, _ => 0
  | k + 1, S => if S = 0 then 0 else
    (if gwN w S s % 2 = 0 then
      (if nsd (nsd S (drN own W s 0 S (wwN w S (gwN w S s) s))) (zkN own w W s k (nsd S (drN own W s 0 S (wwN w S (gwN w S s) s)))) = 0 then S
       else zkN own w W s k (nsd S (drN own W s 1 S (nsd (nsd S (drN own W s 0 S (wwN w S (gwN w S s) s))) (zkN own w W s k (nsd S (drN own W s 0 S (wwN w S (gwN w S s) s))))))))
     else
      (if zkN own w W s k (nsd S (drN own W s 1 S (wwN w S (gwN w S s) s))) = 0 then 0
       else zkN own w W s k (nsd S (drN own W s 0 S (zkN own w W s k (nsd S (drN own W s 1 S (wwN w S (gwN w S s) s)))))) ||| drN own W s 0 S (zkN own w W s k (nsd S (drN own W s 1 S (wwN w S (gwN w S s) s))))))
theorem nsd_P {S D : Nat} : (fun v => (nsd S D).testBit v = true) = fun v => S.testBit v = true ∧ ¬ D.testBit v = true := by
  funext v
  rw [nsd_bit, Bool.and_eq_true, Bool.not_eq_true', Bool.not_eq_true]
theorem cnt_nsd {S D s : Nat} (hS : S < 2 ^ s) (h : ∃ v, D.testBit v = true ∧ S.testBit v = true) : cnt (fun i => (nsd S D).testBit i) s < cnt (fun i => S.testBit i) s := by
  obtain ⟨v, v1, v2⟩ := h
  refine cnt_lt (i := v) (fun j _ hj => ?_) ?_ ?_ v2
  · have hj : (nsd S D).testBit j = true := hj
    rw [nsd_bit, Bool.and_eq_true] at hj
    exact hj.1
  · rcases Nat.lt_or_ge v s with z | z
    · exact z
    · rw [nb_big hS z] at v2
      exact absurd v2 (by decide)
  · show (nsd S D).testBit v = false
    rw [nsd_bit, v1, Bool.not_true, Bool.and_false]
theorem zielonka {own w W : Nat → Nat} {s : Nat} (ho : ∀ v, v < s → own v = 0 ∨ own v = 1) : ∀ k S, cnt (fun i => S.testBit i) s < k → S < 2 ^ s → lds W (fun v => S.testBit v = true) → zkN own w W s k S < 2 ^ s ∧ WinS own w W (fun v => S.testBit v = true) (fun v => (zkN own w W s k S).testBit v = true) 0 ∧ WinS own w W (fun v => S.testBit v = true) (fun v => S.testBit v = true ∧ ¬ (zkN own w W s k S).testBit v = true) 1 := by
  intro k
  induction k with
  | zero => intro S h; omega
  | succ k ih =>
    intro S hk hS hl
    have lt : ∀ v, S.testBit v = true → v < s := fun v hv => by
      rcases Nat.lt_or_ge v s with z | z
      · exact z
      · rw [nb_big hS z] at hv
        exact absurd hv (by decide)
    have hoS : ∀ v, S.testBit v = true → own v = 0 ∨ own v = 1 := fun v hv => ho v (lt v hv)
    rw [zkN]
    by_cases h0 : S = 0
    · rw [if_pos h0]
      subst h0
      exact ⟨hS, WinS.em (fun v => by rw [Nat.zero_testBit]; decide), WinS.em (fun v z => by rw [Nat.zero_testBit] at z; exact absurd z.1 (by decide))⟩
    · rw [if_neg h0]
      obtain ⟨v0, hv0⟩ := nb_ne0.mp h0
      generalize hc : gwN w S s = c
      have cw : ∀ v, S.testBit v = true → w v ≤ c := fun v hv => by rw [← hc]; exact gwN_ge hv s (lt v hv)
      obtain ⟨x, x1, x2, x3⟩ := gwN_ex (w := w) (S := S) s ⟨v0, lt v0 hv0, hv0⟩
      rw [hc] at x3
      generalize hG : wwN w S c s = G
      have gb : ∀ v, G.testBit v = true ↔ v < s ∧ S.testBit v = true ∧ w v = c := fun v => by rw [← hG]; exact wwN_bit s
      have gl : G < 2 ^ s := by rw [← hG]; exact wwN_lt
      have gS : ∀ v, G.testBit v = true → S.testBit v = true := fun v hv => ((gb v).mp hv).2.1
      -- the part of one player i with c's sense, j the other one
      have part : ∀ i j, i ≠ j → c % 2 = i → (∀ v, S.testBit v = true → own v = i ∨ own v = j) → lds W (fun v => (nsd S (drN own W s i S G)).testBit v = true) ∧ cnt (fun v => (nsd S (drN own W s i S G)).testBit v) s < k ∧ (∀ X, WinS own w W (fun v => (nsd S (drN own W s i S G)).testBit v = true) X i → (∀ v, X v ↔ (nsd S (drN own W s i S G)).testBit v = true) → WinS own w W (fun v => S.testBit v = true) (fun v => S.testBit v = true) i) ∧ (∀ L, L < 2 ^ s → L ≠ 0 → WinS own w W (fun v => (nsd S (drN own W s i S G)).testBit v = true) (fun v => L.testBit v = true) j → lds W (fun v => (nsd S (drN own W s j S L)).testBit v = true) ∧ cnt (fun v => (nsd S (drN own W s j S L)).testBit v) s < k ∧ (∀ Y, WinS own w W (fun v => (nsd S (drN own W s j S L)).testBit v = true) Y j → WinS own w W (fun v => S.testBit v = true) (fun v => (drN own W s j S L).testBit v = true ∨ Y v) j) ∧ (∀ Z, WinS own w W (fun v => (nsd S (drN own W s j S L)).testBit v = true) Z i → WinS own w W (fun v => S.testBit v = true) Z i)) := fun i j hij hci hoij => by
        obtain ⟨dA, hA⟩ := drN_ok (own := own) (W := W) (i := i) hS gl gS
        rw [nsd_P]
        refine ⟨hA.rest hl, ?_, fun X hX hXe => ?_, fun L hLl hL0 hL => ?_⟩
        · have := cnt_nsd (D := drN own W s i S G) hS ⟨x, hA.1 x ((gb x).mpr ⟨x1, x2, x3⟩), x2⟩
          omega
        · refine win_all hl hA hci (fun v hv => cw v hv) (fun v hv => ((gb v).mp hv).2.2) (hX.eqv (fun v => Iff.rfl) (fun v => ?_))
          rw [hXe]
          exact Iff.of_eq (congrFun (nsd_P (S := S) (D := drN own W s i S G)) v)
        · have LS : ∀ v, L.testBit v = true → S.testBit v = true := fun v hv => (hL.1 v hv).1
          obtain ⟨d, hD⟩ := drN_ok (own := own) (W := W) (i := j) hS hLl LS
          obtain ⟨y, hy⟩ := nb_ne0.mp hL0
          rw [nsd_P]
          refine ⟨hD.rest hl, ?_, fun Y hY => win_more hij hoij hA hL hD hY, fun Z hZ => win_in hij hoij hD hZ⟩
          have := cnt_nsd (D := drN own W s j S L) hS ⟨y, hD.1 y hy, LS y hy⟩
          omega
      by_cases hp : c % 2 = 0
      · rw [if_pos hp]
        obtain ⟨p1, p2, p3, p4⟩ := part 0 1 (by decide) hp hoS
        have Rl := nsd_lt (T := drN own W s 0 S G) hS
        obtain ⟨a1, a2, a3⟩ := ih _ p2 Rl p1
        have hRS : ∀ v, (nsd S (drN own W s 0 S G)).testBit v = true → S.testBit v = true := fun v hv => by
          rw [nsd_bit, Bool.and_eq_true] at hv
          exact hv.1
        generalize nsd S (drN own W s 0 S G) = R at *
        generalize zkN own w W s k R = won at *
        by_cases z : nsd R won = 0
        · rw [if_pos z]
          refine ⟨hS, p3 _ a2 (fun v => ⟨a2.1 v, fun hv => ?_⟩), WinS.em (fun v y => y.2 y.1)⟩
          have := nsd_bit R won v
          rw [z, Nat.zero_testBit, hv] at this
          cases q : won.testBit v with
          | true => rfl
          | false => rw [q] at this; exact absurd this (by decide)
        · rw [if_neg z]
          rw [← nsd_P] at a3
          obtain ⟨q1, q2, q3, q4⟩ := p4 (nsd R won) (nsd_lt Rl) z a3
          obtain ⟨b1, b2, b3⟩ := ih _ q2 (nsd_lt hS) q1
          refine ⟨b1, q4 _ b2, (q3 _ b3).eqv (fun v => Iff.rfl) (fun v => ?_)⟩
          have e := b2.1 v
          generalize zkN own w W s k (nsd S (drN own W s 1 S (nsd R won))) = B at *
          generalize hD : drN own W s 1 S (nsd R won) = D at *
          have DS : D.testBit v = true → S.testBit v = true := by
            obtain ⟨d, hd⟩ := drN_ok (own := own) (W := W) (i := 1) (G := nsd R won) hS (nsd_lt Rl) (fun v hv => hRS v (by
              rw [nsd_bit, Bool.and_eq_true] at hv
              exact hv.1))
            rw [hD] at hd
            exact hd.2.1 v
          have e : B.testBit v = true → (nsd S D).testBit v = true := e
          rw [nsd_bit] at e ⊢
          cases u1 : S.testBit v <;> cases u2 : D.testBit v <;> cases u3 : B.testBit v <;> simp [u1, u2, u3] at e DS ⊢
      · rw [if_neg hp]
        obtain ⟨p1, p2, p3, p4⟩ := part 1 0 (by decide) (by omega) (fun v hv => (hoS v hv).symm)
        have Rl := nsd_lt (T := drN own W s 1 S G) hS
        obtain ⟨a1, a2, a3⟩ := ih _ p2 Rl p1
        generalize hR : nsd S (drN own W s 1 S G) = R at *
        generalize zkN own w W s k R = won at *
        by_cases z : won = 0
        · rw [if_pos z]
          subst z
          refine ⟨Nat.two_pow_pos s, WinS.em (fun v y => by rw [Nat.zero_testBit] at y; exact absurd y (by decide)), (p3 _ a3 (fun v => ?_)).eqv (fun v => Iff.rfl) (fun v => ?_)⟩
          · rw [Nat.zero_testBit]
            exact ⟨fun y => y.1, fun y => ⟨y, by decide⟩⟩
          · rw [Nat.zero_testBit]
            exact ⟨fun y => ⟨y, by decide⟩, fun y => y.1⟩
        · rw [if_neg z]
          obtain ⟨q1, q2, q3, q4⟩ := p4 won a1 z a2
          obtain ⟨b1, b2, b3⟩ := ih _ q2 (nsd_lt hS) q1
          have Dl := drN_lt (own := own) (W := W) (i := 0) (S := S) a1
          refine ⟨nb_or_lt b1 Dl, (q3 _ b2).eqv (fun v => Iff.rfl) (fun v => ?_), (q4 _ b3).eqv (fun v => Iff.rfl) (fun v => ?_)⟩
          · rw [Nat.testBit_or, Bool.or_eq_true]
            exact Or.comm
          · rw [Nat.testBit_or, nsd_bit]
            generalize zkN own w W s k (nsd S (drN own W s 0 S won)) = B
            generalize drN own W s 0 S won = D
            cases S.testBit v <;> cases D.testBit v <;> cases B.testBit v <;> simp
end
