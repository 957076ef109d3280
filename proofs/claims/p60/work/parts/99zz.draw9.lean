/-! THE PURE PART, drawings: a row of rounds, and what leads from one going to the next. -/
section
/-- the places of a node -/
def plB (nb : Nat → Nat) (u p : Nat) : Prop := sdN nb u ≤ p ∧ p < sdN nb (u + 1)
/-- the nodes below L have their rounds in t, and s tells where each going stands -/
def okR (nb t s : Nat → Nat) (L : Nat) : Prop := ∀ u, u < L → ∀ p, plB nb u p → t p < 7 ∧ (nb u).testBit (t p) = true ∧ s (7 * u + t p) = p
theorem okT_inj {nb t s : Nat → Nat} {L u p q : Nat} (h : okR nb t s L) (hu : u < L) (hp : plB nb u p) (hq : plB nb u q) (e : t p = t q) : p = q := by
  rw [← (h u hu p hp).2.2, e, (h u hu q hq).2.2]
theorem okT_sur {nb t s : Nat → Nat} {L u v : Nat} (h : okR nb t s L) (hu : u < L) (hv : v < 7) (hb : (nb u).testBit v = true) : plB nb u (s (7 * u + v)) ∧ t (s (7 * u + v)) = v := by
  have : ∃ p, plB nb u p ∧ t p = v := by
    apply Classical.byContradiction
    intro c
    have le := cnt_inj (X := fun _ => true) (Y := cdel (fun w => (nb u).testBit w) v) (f := fun i => t (sdN nb u + i)) (m := 7) (degN nb u) (fun i hi _ => by
      have pi : plB nb u (sdN nb u + i) := ⟨by omega, by show _ < sdN nb u + degN nb u; omega⟩
      obtain ⟨a, b, _⟩ := h u hu _ pi
      exact ⟨a, cdel_eq.mpr ⟨b, fun e => c ⟨_, pi, e⟩⟩⟩) (fun i j hi hj _ _ e => by
      have pi : plB nb u (sdN nb u + i) := ⟨by omega, by show _ < sdN nb u + degN nb u; omega⟩
      have pj : plB nb u (sdN nb u + j) := ⟨by omega, by show _ < sdN nb u + degN nb u; omega⟩
      have := okT_inj h hu pi pj e
      omega)
    rw [cnt_T] at le
    have := cnt_del (X := fun w => (nb u).testBit w) hb 7 hv
    have : degN nb u = cnt (fun w => (nb u).testBit w) 7 := rfl
    omega
  obtain ⟨p, p1, p2⟩ := this
  have := (h u hu p p1).2.2
  rw [p2] at this
  rw [this]
  exact ⟨p1, p2⟩
/-- the place behind, in the round of u -/
def cycN (nb : Nat → Nat) (u p : Nat) : Nat := if p + 1 = sdN nb (u + 1) then sdN nb u else p + 1
theorem cyc_pl {nb : Nat → Nat} {u p : Nat} (h : plB nb u p) : plB nb u (cycN nb u p) := by
  obtain ⟨h1, h2⟩ := h
  unfold cycN plB
  by_cases c : p + 1 = sdN nb (u + 1)
  · rw [if_pos c]
    exact ⟨Nat.le_refl _, by omega⟩
  · rw [if_neg c]
    exact ⟨by omega, by omega⟩
theorem cyc_inj {nb : Nat → Nat} {u p q : Nat} (hp : plB nb u p) (hq : plB nb u q) (e : cycN nb u p = cycN nb u q) : p = q := by
  obtain ⟨h1, h2⟩ := hp
  obtain ⟨h3, h4⟩ := hq
  unfold cycN at e
  by_cases c : p + 1 = sdN nb (u + 1)
  · rw [if_pos c] at e
    by_cases d : q + 1 = sdN nb (u + 1)
    · omega
    · rw [if_neg d] at e
      omega
  · rw [if_neg c] at e
    by_cases d : q + 1 = sdN nb (u + 1)
    · rw [if_pos d] at e
      omega
    · rw [if_neg d] at e
      omega
def nbF (nb : Nat → Nat) (L u : Nat) : Nat := if u < L then nb u else 0
theorem nbF_g {nb : Nat → Nat} {L x : Nat} : gngB (nbF nb L) x ↔ gngB nb x ∧ x / 7 < L := by
  unfold gngB nbF
  by_cases c : x / 7 < L
  · rw [if_pos c]
    exact ⟨fun h => ⟨h, c⟩, fun h => h.1⟩
  · rw [if_neg c, Nat.zero_testBit]
    exact ⟨fun h => absurd h.2 (by decide), fun h => absurd h.2 c⟩
/-- the next going in the round -/
def roT (nb t s : Nat → Nat) (L x : Nat) : Nat := if gngb nb x = true ∧ x / 7 < L then 7 * (x / 7) + t (cycN nb (x / 7) (s x)) else x
theorem roT_y {nb t s : Nat → Nat} {L x : Nat} (h : okR nb t s L) (hx : gngB (nbF nb L) x) : roT nb t s L x = 7 * (x / 7) + t (cycN nb (x / 7) (s x)) ∧ gngB (nbF nb L) (roT nb t s L x) ∧ plB nb (x / 7) (s x) ∧ t (s x) = x % 7 ∧ s (roT nb t s L x) = cycN nb (x / 7) (s x) ∧ roT nb t s L x / 7 = x / 7 := by
  obtain ⟨g, l⟩ := nbF_g.mp hx
  have e : roT nb t s L x = 7 * (x / 7) + t (cycN nb (x / 7) (s x)) := if_pos ⟨gngb_t.mpr g, l⟩
  have sx := okT_sur h l (show x % 7 < 7 by omega) g.2
  rw [show 7 * (x / 7) + x % 7 = x by omega] at sx
  obtain ⟨c1, c2, c3⟩ := h _ l _ (cyc_pl sx.1)
  have x49 := g.1
  have d : (7 * (x / 7) + t (cycN nb (x / 7) (s x))) / 7 = x / 7 := by omega
  have m : (7 * (x / 7) + t (cycN nb (x / 7) (s x))) % 7 = t (cycN nb (x / 7) (s x)) := by omega
  refine ⟨e, ?_, sx.1, sx.2, by rw [e, c3], by rw [e, d]⟩
  rw [e]
  refine nbF_g.mpr ⟨⟨by omega, ?_⟩, by rw [d]; exact l⟩
  rw [d, m]
  exact c2
theorem roT_n {nb t s : Nat → Nat} {L x : Nat} (hx : ¬ gngB (nbF nb L) x) : roT nb t s L x = x := if_neg (fun w => hx (nbF_g.mpr ⟨gngb_t.mp w.1, w.2⟩))
theorem roT_it {nb t s : Nat → Nat} {L u : Nat} (hL : L ≤ 7) (h : okR nb t s L) (hu : u < L) : ∀ k, k < degN nb u → itA (roT nb t s L) k (7 * u + t (sdN nb u)) = 7 * u + t (sdN nb u + k)
  | 0, _ => rfl
  | k + 1, hk => by
    have ih := roT_it hL h hu k (by omega)
    have en : sdN nb (u + 1) = sdN nb u + degN nb u := rfl
    have pk : plB nb u (sdN nb u + k) := ⟨by omega, by omega⟩
    obtain ⟨a, b, c⟩ := h u hu _ pk
    show roT nb t s L (itA (roT nb t s L) k (7 * u + t (sdN nb u))) = _
    rw [ih]
    unfold roT
    · have d : (7 * u + t (sdN nb u + k)) / 7 = u := by omega
      have m : (7 * u + t (sdN nb u + k)) % 7 = t (sdN nb u + k) := by omega
      have g : gngB nb (7 * u + t (sdN nb u + k)) := ⟨by omega, by rw [d, m]; exact b⟩
      rw [if_pos ⟨gngb_t.mpr g, by rw [d]; exact hu⟩, d, c]
      unfold cycN
      rw [if_neg (by omega)]
      rfl
theorem roT_rot {nb t s : Nat → Nat} {L : Nat} (hL : L ≤ 7) (h : okR nb t s L) : rotE (nbF nb L) (roT nb t s L) := by
  have fx : ∀ x, ¬ gngB (nbF nb L) x → roT nb t s L x = x := fun x => roT_n
  have dv : ∀ x, roT nb t s L x / 7 = x / 7 := fun x => by
    by_cases g : gngB (nbF nb L) x
    · exact (roT_y h g).2.2.2.2.2
    · rw [fx x g]
  refine ⟨⟨fun x hx => ?_, fun x hx => fx x (fun g => by have := g.1; omega), fun x y e => ?_⟩, dv, fx, fun x y gx gy e => ?_⟩
  · by_cases g : gngB (nbF nb L) x
    · exact (roT_y h g).2.1.1
    · rw [fx x g]; exact hx
  · by_cases g : gngB (nbF nb L) x
    · by_cases g2 : gngB (nbF nb L) y
      · obtain ⟨a1, a2, a3, a4, a5, a6⟩ := roT_y h g
        obtain ⟨b1, b2, b3, b4, b5, b6⟩ := roT_y h g2
        have exy : x / 7 = y / 7 := by rw [← a6, ← b6, e]
        rw [e, b5, ← exy] at a5
        rw [← exy] at b3
        have := cyc_inj b3 a3 a5
        rw [this] at b4
        omega
      · have := (roT_y h g).2.1
        rw [e, fx y g2] at this
        exact absurd this g2
    · by_cases g2 : gngB (nbF nb L) y
      · have := (roT_y h g2).2.1
        rw [← e, fx x g] at this
        exact absurd this g
      · rw [← fx x g, e, fx y g2]
  · have p1 : prmN (roT nb t s L) 49 := ⟨fun x hx => by
      by_cases g : gngB (nbF nb L) x
      · exact (roT_y h g).2.1.1
      · rw [fx x g]; exact hx, fun x hx => fx x (fun g => by have := g.1; omega), fun x y e => by
      by_cases g : gngB (nbF nb L) x
      · by_cases g2 : gngB (nbF nb L) y
        · obtain ⟨a1, a2, a3, a4, a5, a6⟩ := roT_y h g
          obtain ⟨b1, b2, b3, b4, b5, b6⟩ := roT_y h g2
          have exy : x / 7 = y / 7 := by rw [← a6, ← b6, e]
          rw [e, b5, ← exy] at a5
          rw [← exy] at b3
          have := cyc_inj b3 a3 a5
          rw [this] at b4
          omega
        · have := (roT_y h g).2.1
          rw [e, fx y g2] at this
          exact absurd this g2
      · by_cases g2 : gngB (nbF nb L) y
        · have := (roT_y h g2).2.1
          rw [← e, fx x g] at this
          exact absurd this g
        · rw [← fx x g, e, fx y g2]⟩
    have first : ∀ x, gngB (nbF nb L) x → orbN (roT nb t s L) (7 * (x / 7) + t (sdN nb (x / 7))) x := fun x g => by
      obtain ⟨_, _, a3, a4, _, _⟩ := roT_y h g
      have l := (nbF_g.mp g).2
      have en : sdN nb (x / 7 + 1) = sdN nb (x / 7) + degN nb (x / 7) := rfl
      obtain ⟨a31, a32⟩ := a3
      refine ⟨s x - sdN nb (x / 7), ?_⟩
      rw [roT_it hL h l _ (by omega), show sdN nb (x / 7) + (s x - sdN nb (x / 7)) = s x by omega, a4]
      omega
    have q := orb_eqv p1
    have w1 := first x gx
    have w2 := first y gy
    rw [← e] at w2
    exact q.2.2 _ _ _ (q.2.1 _ _ w1) w2
theorem sdN_mono {nb : Nat → Nat} {a : Nat} : ∀ b, a ≤ b → sdN nb a ≤ sdN nb b
  | 0, h => by
    have : a = 0 := by omega
    rw [this]
    exact Nat.le_refl _
  | b + 1, h => by
    by_cases c : a = b + 1
    · rw [c]
      exact Nat.le_refl _
    · have := sdN_mono (nb := nb) b (show a ≤ b by omega)
      show _ ≤ sdN nb b + degN nb b
      omega
/-- the node that has the place -/
def owN (nb : Nat → Nat) (p : Nat) : Nat := cnt (fun u => decide (sdN nb (u + 1) ≤ p)) 7
theorem cnt_low : ∀ u, u ≤ 7 → cnt (fun i => decide (i < u)) 7 = u := by decide
theorem ow_pl {nb : Nat → Nat} {u p : Nat} (hu : u < 7) (h : plB nb u p) : owN nb p = u := by
  unfold owN
  rw [cnt_eq (Y := fun i => decide (i < u)) 7 (fun i hi => ?_), cnt_low u (by omega)]
  obtain ⟨h1, h2⟩ := h
  rw [decide_eq_decide]
  constructor
  · intro w
    apply Classical.byContradiction
    intro c
    have := sdN_mono (nb := nb) (a := u + 1) (i + 1) (by omega)
    omega
  · intro w
    have := sdN_mono (nb := nb) (a := i + 1) u (by omega)
    omega
theorem pl_ex {nb : Nat → Nat} {p : Nat} : ∀ k, p < sdN nb k → ∃ u, u < k ∧ plB nb u p
  | 0, h => absurd h (Nat.not_lt_zero p)
  | k + 1, h => by
    by_cases c : p < sdN nb k
    · obtain ⟨u, a, b⟩ := pl_ex k c
      exact ⟨u, by omega, b⟩
    · exact ⟨k, by omega, by omega, h⟩
end
