/-! THE PURE PART, pairings: the judge of nodes; no row of nodes is accepted where a pairing is (weak duality of m). -/
section
/-- what is left without the first j numbers of the row -/
def lftN (s : Nat) (xs : List Int32) : Nat → Nat
  | 0 => 2 ^ s - 1
  | j + 1 => nsd (lftN s xs j) (2 ^ pX xs j)
theorem nb_fullbit {s i : Nat} : (2 ^ s - 1).testBit i = decide (i < s) := Nat.testBit_two_pow_sub_one s i
theorem lftN_bit {s i : Nat} {xs : List Int32} : ∀ j, (lftN s xs j).testBit i = true ↔ i < s ∧ ∀ l, l < j → pX xs l ≠ i
  | 0 => by
    rw [lftN, nb_fullbit, decide_eq_true_eq]
    exact ⟨fun h => ⟨h, fun l hl => absurd hl (Nat.not_lt_zero l)⟩, fun h => h.1⟩
  | j + 1 => by
    rw [lftN, nsd_bit, Bool.and_eq_true, lftN_bit j, nb_pow, Bool.not_eq_true', decide_eq_false_iff_not]
    constructor
    · rintro ⟨⟨a, b⟩, c⟩
      refine ⟨a, fun l hl => ?_⟩
      by_cases e : l = j
      · subst e
        exact c
      · exact b l (by omega)
    · rintro ⟨a, b⟩
      exact ⟨⟨a, fun l hl => b l (by omega)⟩, b j (by omega)⟩
theorem lftN_lt {s : Nat} {xs : List Int32} (j : Nat) : lftN s xs j < 2 ^ s := nb_lt fun i hi => by
  cases e : (lftN s xs j).testBit i with
  | false => rfl
  | true =>
    have := ((lftN_bit j).mp e).1
    omega
/-- what is left, and how many odd parts, ahead of the node j -/
def ocs (nr : Nat → Nat) (L0 : Nat) : Nat → Nat × Nat
  | 0 => (L0, 0)
  | j + 1 => if (ocs nr L0 j).1.testBit j = true then (nsd (ocs nr L0 j).1 (hang nr 9 (ocs nr L0 j).1 j), (ocs nr L0 j).2 + pop (hang nr 9 (ocs nr L0 j).1 j) % 2) else ocs nr L0 j
theorem ocs_lt {nr : Nat → Nat} {L0 n : Nat} (h : L0 < 2 ^ n) : ∀ j, (ocs nr L0 j).1 < 2 ^ n
  | 0 => h
  | j + 1 => by
    have ih := ocs_lt (nr := nr) h j
    rw [ocs]
    by_cases e : (ocs nr L0 j).1.testBit j = true
    · rw [if_pos e]
      exact nsd_lt ih
    · rw [if_neg e]
      exact ih
theorem ocs_odd {nr : Nat → Nat} {L0 : Nat} : ∀ j, (ocs nr L0 j).2 ≤ j
  | 0 => Nat.le_refl _
  | j + 1 => by
    have ih := ocs_odd (nr := nr) (L0 := L0) j
    rw [ocs]
    by_cases e : (ocs nr L0 j).1.testBit j = true
    · rw [if_pos e]
      show (ocs nr L0 j).2 + pop (hang nr 9 (ocs nr L0 j).1 j) % 2 ≤ j + 1
      omega
    · rw [if_neg e]
      omega
def nodesOK (s : Nat) (nr : Nat → Nat) (b : Nat) (xs : List Int32) : Prop := inRow xs s ∧ (∀ i, 0 ≤ i → i + 1 < xs.length → xs.getD i 0 < xs.getD (i + 1) 0) ∧ b + xs.length < (ocs nr (lftN s xs xs.length) s).2
theorem T_judgeNodes_go {F e r s b : Nat} {Ln : Nat → Nat} {nr : Nat → Nat} {xs : List Int32} {V : mV} (hF : 2 ^ 10 ≤ F) (hs : s ≤ 9) (hb : V.fI e 8 = nI b) (hb2 : b < 2 ^ 20) (hr : rowIs Ln V r xs) (hi : inRow xs s) (hri : ∀ i, 0 ≤ i → i + 1 < xs.length → xs.getD i 0 < xs.getD (i + 1) 0) (hnr : ∀ i, i < 9 → V.rI 19 i = nI (nr i)) : ∀ k', (∀ j, (xs.length - j) + s + 3 ≤ k' → j ≤ xs.length → mTo (mX7_judgeNodes_go F k' 0 Ln e r (nI s) (nI (lftN s xs j)) (nI j) 0 V) (fun p => (p.1 = 0 ↔ nodesOK s nr b xs) ∧ p.2 = V)) ∧ (∀ j, (s - j) + 1 ≤ k' → j ≤ s → mTo (mX7_judgeNodes_go F k' 1 Ln e r (nI s) (nI (ocs nr (lftN s xs xs.length) j).1) (nI (ocs nr (lftN s xs xs.length) j).2) (nI j) V) (fun p => (p.1 = 0 ↔ nodesOK s nr b xs) ∧ p.2 = V)) := by
  have n := hr.n
  have s9 : (2 : Nat) ^ s ≤ 2 ^ 9 := Nat.pow_le_pow_right (by decide) hs
  intro k'
  induction k' with
  | zero => exact ⟨fun j h1 h2 => by omega, fun j h1 h2 => by omega⟩
  | succ k ih =>
    obtain ⟨ih0, ih1⟩ := ih
    refine ⟨fun j h1 h2 => ?_, fun j h1 h2 => ?_⟩
    · rw [mX7_judgeNodes_go, if_pos rfl]
      unfold mX7_judgeNodes_b0
      refine mTo.le hr.1 rfl (by omega) (by omega) (fun h => ?_) (fun h => ?_)
      · have : j = xs.length := by omega
        subst this
        exact ih1 0 (by omega) (by omega)
      · obtain ⟨p1, p2⟩ := hi.p (by omega) h
        refine mTo.so (T_rAt hr (by omega)) (mTo.lt (mTo.lt ?_))
        have l1 := lftN_lt (s := s) (xs := xs) j
        rw [p2, nI_1, nb_one (by omega), nb_not (by omega)]
        exact ih0 (j + 1) (by omega) (by omega)
    · have l1 : (ocs nr (lftN s xs xs.length) j).1 < 2 ^ 9 := Nat.lt_of_lt_of_le (ocs_lt (nr := nr) (lftN_lt (s := s) (xs := xs) xs.length) j) s9
      have l2 := ocs_odd (nr := nr) (L0 := lftN s xs xs.length) j
      rw [mX7_judgeNodes_go, if_neg (by decide), if_pos rfl]
      unfold mX7_judgeNodes_b1
      refine mTo.le rfl rfl (by omega) (by omega) (fun h => ?_) (fun h => ?_)
      · have : j = s := by omega
        subst this
        exact mTo.le rfl (by rw [hb, hr.1, nI_add]) (by omega) (by omega) (fun h3 => mTo.ret ⟨⟨fun z => absurd (show (2 : Int32) = 0 from z) (by decide), fun z => absurd z.2.2 (by omega)⟩, rfl⟩) (fun h3 => mTo.ret ⟨⟨fun _ => ⟨hi, hri, h3⟩, fun _ => rfl⟩, rfl⟩)
      · have g := ih1 (j + 1) (by omega) (by omega)
        rw [ocs] at g
        refine mTo.hs rfl rfl (by omega) (by omega) (fun h4 => mTo.lt ?_) (fun h4 => ?_)
        · rw [if_neg (by rw [h4]; decide)] at g
          rw [nI_1]
          exact g
        · rw [if_pos h4] at g
          refine mTo.N (T_hang (N := 9) (nr := nr) (by omega) rfl (by omega) l1 (by omega) hnr) (fun v _ hv => ?_)
          subst hv
          have l3 := hang_lt (nr := nr) (N := 9) (node := j) (by omega) l1
          refine mTo.so (T_pop (by omega)) (mTo.lt (mTo.lt (mTo.lt ?_)))
          have hp := cnt_n (X := fun i => (hang nr 9 (ocs nr (lftN s xs xs.length) j).1 j).testBit i) 11
          have hp : pop (hang nr 9 (ocs nr (lftN s xs xs.length) j).1 j) ≤ 11 := hp
          rw [nI_1, show (2 : Int32) = nI 2 from rfl, pk_rem (by omega) (by decide) (by decide), nI_add, nb_not (by omega)]
          exact g
theorem T_judgeNodes {F e r s m b : Nat} {Ln : Nat → Nat} {A B : Nat → Nat} {d : Nat → Int32} {xs : List Int32} {V : mV} (hF : 2 ^ 22 ≤ F) (he : 256 ≤ e) (hrr : 256 ≤ r) (hs : s ≤ 9) (h0 : 0 < s) (h16 : m ≤ 16) (hq : enQ V e s m (nI b) d) (hb2 : b < 2 ^ 20) (hr : rowIs Ln V r xs) (hd : ∀ i, i < m → d (5 * i) = nI (A i) ∧ d (5 * i + 1) = nI (B i) ∧ A i < s ∧ B i < s) : mTo (mX7_judgeNodes F Ln e r V) (fun p => p.1 = 0 ↔ nodesOK s (nrA m A B) b xs) := by
  unfold mX7_judgeNodes mX7_judgeNodes_s
  refine mTo.lt ?_
  rw [hq.1]
  have n := hr.n
  have no : ∀ {P : Prop}, (1 : Int32) = 0 → P := fun z => absurd z (by decide)
  refine mTo.N (T_rWithin (j := 0) (by omega) hr (by omega)) (fun v _ q => mTo.tf q (fun hc => mTo.ret ⟨fun z => no z, fun z => absurd z.1 (fun y => hc ((inRow_iff (by omega) h0).mp y))⟩) (fun hc => ?_))
  have hi := (inRow_iff (by omega) h0).mpr hc
  refine mTo.N (T_rRising (j := 0) (by omega) hr (by omega)) (fun v _ q => mTo.tf q (fun hc => mTo.ret ⟨fun z => no z, fun z => absurd z.2.1 hc⟩) (fun hri => ?_))
  refine mTo.W (T_fillNear (P := fun _ => true) (A := A) (B := B) hF (by omega) (N := 9) rfl (by omega) h16 hq.2.1 (fun i h => ?_) (fun i h => ?_) (fun i h => ?_) (by omega)) (fun v1 V1 _ qq => ?_)
  · rw [hq.2.2.2 _ (by omega), hq.2.2.2 _ (by omega)]
    exact ⟨(hd i h).1, (hd i h).2.1⟩
  · have := hd i h
    omega
  · rw [if_pos rfl]
    exact nb_hasM (by omega)
  · obtain ⟨q1, q2⟩ := qq
    have q1 : ∀ v, v < 9 → V1.rI 19 v = nI (nrA m A B v) := q1
    refine mTo.lt ?_
    rw [nb_full (by omega)]
    refine ((T_judgeNodes_go (e := e) (b := b) (F := F) (by omega) hs (hq.mv q2 (show ¬ e = 19 by omega) (show ¬ e + 1 = 19 by omega)).2.2.1 hb2 (hr.mv q2 (show ¬ r = 19 by omega) (show ¬ r + 1 = 19 by omega)) hi hri q1 F).1 0 (by omega) (by omega)).mono (fun p hp => hp.1)
/-- an odd part holds one that is alone, or goes with a node that is left out -/
theorem part_alone {nr : Nat → Nat} {s L j : Nat} {p : Nat → Nat} {D : Nat → Bool} (hs : s ≤ 9) (hL : L < 2 ^ s) (hj : L.testBit j = true) (hp : ∀ i, i < s → p i < s ∧ p (p i) = i ∧ (p i ≠ i → (nr i).testBit (p i) = true)) (hc : ∀ u w, L.testBit u = true → (nr u).testBit w = true → w < s → D w = true ∨ L.testBit w = true) (hodd : pop (hang nr 9 L j) % 2 = 1) : ∃ v, (hang nr 9 L j).testBit v = true ∧ L.testBit v = true ∧ (p v = v ∨ D (p v) = true) := by
  have s9 : (2 : Nat) ^ s ≤ 2 ^ 9 := Nat.pow_le_pow_right (by decide) hs
  have hjs : j < s := by
    rcases Nat.lt_or_ge j s with z | z
    · exact z
    · rw [nb_big hL z] at hj
      exact absurd hj (by decide)
  have hin : ∀ u, (hang nr 9 L j).testBit u = true → L.testBit u = true := hang_ind hj (fun u w _ _ _ h => h)
  have hlt : ∀ u, L.testBit u = true → u < s := fun u hu => by
    rcases Nat.lt_or_ge u s with z | z
    · exact z
    · rw [nb_big hL z] at hu
      exact absurd hu (by decide)
  rcases Classical.em (∃ v, (hang nr 9 L j).testBit v = true ∧ L.testBit v = true ∧ (p v = v ∨ D (p v) = true)) with h | h
  · exact h
  · have ev := cnt_even (p := p) (n := s) s (fun i => (hang nr 9 L j).testBit i) (cnt_n s) (fun i hi hx => by
      obtain ⟨a1, a2, a3⟩ := hp i hi
      have ne : p i ≠ i := fun z => h ⟨i, hx, hin i hx, Or.inl z⟩
      refine ⟨a1, hang_step (by omega) (Nat.lt_of_lt_of_le hL s9) hx (a3 ne) ?_, ne, a2⟩
      rcases hc i (p i) (hin i hx) (a3 ne) a1 with z | z
      · exact absurd ⟨i, hx, hin i hx, Or.inr z⟩ h
      · exact z)
    have hl : hang nr 9 L j < 2 ^ s := nb_lt fun i hi => by
      cases e : (hang nr 9 L j).testBit i with
      | false => rfl
      | true =>
        have := hlt i (hin i e)
        omega
    rw [pop_n hl (by omega)] at hodd
    omega
theorem odd_le {nr : Nat → Nat} {s L0 : Nat} {p : Nat → Nat} {D : Nat → Bool} (hs : s ≤ 9) (hL0 : L0 < 2 ^ s) (hp : ∀ i, i < s → p i < s ∧ p (p i) = i ∧ (p i ≠ i → (nr i).testBit (p i) = true)) (hsym : ∀ u w, (nr u).testBit w = true → (nr w).testBit u = true) (hc : ∀ u w, L0.testBit u = true → (nr u).testBit w = true → w < s → D w = true ∨ L0.testBit w = true) : ∀ j, j ≤ s → (∀ u w, (ocs nr L0 j).1.testBit u = true → (nr u).testBit w = true → w < s → D w = true ∨ (ocs nr L0 j).1.testBit w = true) ∧ (∀ u, (ocs nr L0 j).1.testBit u = true → L0.testBit u = true) ∧ (ocs nr L0 j).2 ≤ cnt (fun v => L0.testBit v && !(ocs nr L0 j).1.testBit v && (decide (p v = v) || D (p v))) s := by
  have s9 : (2 : Nat) ^ s ≤ 2 ^ 9 := Nat.pow_le_pow_right (by decide) hs
  intro j
  induction j with
  | zero => exact fun _ => ⟨hc, fun u h => h, Nat.zero_le _⟩
  | succ j ih =>
    intro hj
    obtain ⟨i1, i2, i3⟩ := ih (by omega)
    have hl := ocs_lt (nr := nr) hL0 j
    rw [ocs]
    by_cases e : (ocs nr L0 j).1.testBit j = true
    · rw [if_pos e]
      generalize hL : (ocs nr L0 j).1 = L at *
      generalize (ocs nr L0 j).2 = o at *
      have hin : ∀ u, (hang nr 9 L j).testBit u = true → L.testBit u = true := hang_ind e (fun u w _ _ _ h => h)
      refine ⟨fun u w hu hw hws => ?_, fun u hu => ?_, ?_⟩
      · have hu : (nsd L (hang nr 9 L j)).testBit u = true := hu
        show _ ∨ (nsd L (hang nr 9 L j)).testBit w = true
        rw [nsd_bit, Bool.and_eq_true, Bool.not_eq_true'] at hu
        rcases i1 u w hu.1 hw hws with z | z
        · exact Or.inl z
        · right
          rw [nsd_bit, z, Bool.true_and, Bool.not_eq_true']
          cases hh : (hang nr 9 L j).testBit w with
          | false => rfl
          | true =>
            have := hang_step (by omega) (Nat.lt_of_lt_of_le hl s9) hh (hsym u w hw) hu.1
            rw [hu.2] at this
            exact absurd this (by decide)
      · have hu : (nsd L (hang nr 9 L j)).testBit u = true := hu
        rw [nsd_bit, Bool.and_eq_true] at hu
        exact i2 u hu.1
      · show o + pop (hang nr 9 L j) % 2 ≤ cnt (fun v => L0.testBit v && !(nsd L (hang nr 9 L j)).testBit v && (decide (p v = v) || D (p v))) s
        have mono : ∀ v, (L0.testBit v && !L.testBit v && (decide (p v = v) || D (p v))) = true → (L0.testBit v && !(nsd L (hang nr 9 L j)).testBit v && (decide (p v = v) || D (p v))) = true := fun v h => by
          rw [nsd_bit]
          rw [Bool.and_eq_true, Bool.and_eq_true, Bool.not_eq_true'] at h
          rw [h.1.1, h.1.2, h.2]
          rfl
        rcases Nat.mod_two_eq_zero_or_one (pop (hang nr 9 L j)) with z | z
        · have := cnt_le s (fun v _ => mono v)
          omega
        · obtain ⟨v, v1, v2, v3⟩ := part_alone hs hl e hp i1 z
          have hvs : v < s := by
            rcases Nat.lt_or_ge v s with y | y
            · exact y
            · rw [nb_big hl y] at v2
              exact absurd v2 (by decide)
          have := cnt_lt (X := fun v => L0.testBit v && !L.testBit v && (decide (p v = v) || D (p v))) (Y := fun v => L0.testBit v && !(nsd L (hang nr 9 L j)).testBit v && (decide (p v = v) || D (p v))) (n := s) (fun v _ => mono v) hvs (by show (L0.testBit v && !L.testBit v && _) = false; rw [v2, Bool.not_true, Bool.and_false, Bool.false_and]) (by
            show (L0.testBit v && !(nsd L (hang nr 9 L j)).testBit v && (decide (p v = v) || D (p v))) = true
            rw [nsd_bit, v1, i2 v v2, Bool.not_true, Bool.and_false, Bool.true_and, Bool.not_false, Bool.true_and, Bool.or_eq_true, decide_eq_true_eq]
            exact v3)
          omega
    · rw [if_neg e]
      exact ⟨i1, i2, i3⟩
/-- no pairing and no row of nodes at once -/
theorem pair_nodes {s b m : Nat} {A B : Nat → Nat} {xs ys : List Int32} (hs : s ≤ 9) (h1 : pairOK s (nrA m A B) b xs) (h2 : nodesOK s (nrA m A B) b ys) : False := by
  obtain ⟨⟨a1, a2⟩, a3, a4, a5⟩ := h1
  obtain ⟨b1, b2, b3⟩ := h2
  have hb : ∀ i, (lftN s ys ys.length).testBit i = true ↔ i < s ∧ ∀ l, l < ys.length → pX ys l ≠ i := fun i => lftN_bit ys.length
  have key := (odd_le (nr := nrA m A B) (p := pX xs) (D := fun w => decide (∃ l, l < ys.length ∧ pX ys l = w)) hs (lftN_lt (s := s) (xs := ys) ys.length) (fun i hi => ⟨(a2.p (by omega) (by omega)).1, a3 i hi, a4 i hi⟩) (fun u w h => by unfold nrA at h ⊢; rw [nearN_sym]; exact h) (fun u w _ _ hw => by
    rcases Classical.em (∃ l, l < ys.length ∧ pX ys l = w) with z | z
    · exact Or.inl (decide_eq_true z)
    · exact Or.inr ((hb w).mpr ⟨hw, fun l hl e => z ⟨l, hl, e⟩⟩)) s (Nat.le_refl _)).2.2
  have up : cnt (fun v => (lftN s ys ys.length).testBit v && !(ocs (nrA m A B) (lftN s ys ys.length) s).1.testBit v && (decide (pX xs v = v) || decide (∃ l, l < ys.length ∧ pX ys l = pX xs v))) s ≤ cnt (fun v => decide (pX xs v = v)) s + ys.length := by
    have h3 := cnt_or (X := fun v => decide (pX xs v = v)) (Y := fun v => decide (∃ l, l < ys.length ∧ pX ys l = pX xs v)) s
    have h4 := cnt_le (X := fun v => (lftN s ys ys.length).testBit v && !(ocs (nrA m A B) (lftN s ys ys.length) s).1.testBit v && (decide (pX xs v = v) || decide (∃ l, l < ys.length ∧ pX ys l = pX xs v))) (Y := fun v => decide (pX xs v = v) || decide (∃ l, l < ys.length ∧ pX ys l = pX xs v)) s (fun v _ h => (Bool.and_eq_true _ _ ▸ h : _ ∧ _).2)
    have h5 : cnt (fun v => decide (∃ l, l < ys.length ∧ pX ys l = pX xs v)) s ≤ cnt (fun _ => true) ys.length := by
      have pick : ∀ v, ∃ l, (∃ l, l < ys.length ∧ pX ys l = pX xs v) → l < ys.length ∧ pX ys l = pX xs v := fun v => by
        rcases Classical.em (∃ l, l < ys.length ∧ pX ys l = pX xs v) with ⟨l, h⟩ | h
        · exact ⟨l, fun _ => h⟩
        · exact ⟨0, fun z => absurd z h⟩
      refine cnt_inj (f := fun v => (pick v).choose) s (fun v hv h => ⟨((pick v).choose_spec (of_decide_eq_true h)).1, rfl⟩) (fun u v hu hv h h' e => ?_)
      have e1 := ((pick u).choose_spec (of_decide_eq_true h)).2
      have e2 := ((pick v).choose_spec (of_decide_eq_true h')).2
      have e : (pick u).choose = (pick v).choose := e
      rw [e, e2] at e1
      rw [← a3 u hu, ← a3 v hv, e1]
    have h6 := cnt_n (X := fun _ => true) ys.length
    omega
  omega
end
