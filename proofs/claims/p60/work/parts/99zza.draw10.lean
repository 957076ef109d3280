/-! THE PURE PART, drawings: each drawing is a row of rounds that begin with the lowest neighbours. -/
section
theorem rot_per {nb ρ : Nat → Nat} {u w : Nat} (hr : rotE nb ρ) (hu : u < 7) (hw : w < 7) (hg : (nb u).testBit w = true) : itA ρ (degN nb u) (7 * u + w) = 7 * u + w ∧ (∀ i j, i < degN nb u → j < degN nb u → itA ρ i (7 * u + w) = itA ρ j (7 * u + w) → i = j) ∧ (∀ i, gngB nb (itA ρ i (7 * u + w)) ∧ itA ρ i (7 * u + w) / 7 = u) ∧ ∀ v, v < 7 → (nb u).testBit v = true → ∃ i, i < degN nb u ∧ itA ρ i (7 * u + w) = 7 * u + v := by
  obtain ⟨x0, hx0⟩ : ∃ x0, x0 = 7 * u + w := ⟨_, rfl⟩
  rw [← hx0]
  have g0 : gngB nb x0 := by
    refine ⟨by omega, ?_⟩
    rw [hx0, show (7 * u + w) / 7 = u by omega, show (7 * u + w) % 7 = w by omega]
    exact hg
  have gi : ∀ i, gngB nb (itA ρ i x0) ∧ itA ρ i x0 / 7 = u := by
    intro i
    refine ⟨?_, by rw [rot_div hr.2.1]; omega⟩
    induction i with
    | zero => exact g0
    | succ i ih =>
      apply Classical.byContradiction
      intro c
      have e : ρ (itA ρ (i + 1) x0) = ρ (itA ρ i x0) := hr.2.2.1 _ c
      have := hr.1.2.2 _ _ e
      rw [this] at c
      exact c ih
  obtain ⟨K0, k1, k2⟩ := itA_per hr.1 x0
  obtain ⟨K, ⟨k3, k4⟩, k5⟩ := lst_k (P := fun k => 0 < k ∧ itA ρ k x0 = x0) K0 ⟨K0, Nat.le_refl _, k1, k2⟩
  have dis : ∀ i j, i < K → j < K → itA ρ i x0 = itA ρ j x0 → i = j := by
    have half : ∀ i j, i < j → j < K → itA ρ i x0 = itA ρ j x0 → False := by
      intro i j h1 h2 e
      have e2 := itA_add (f := ρ) (x := x0) (b := j - i) i
      rw [show i + (j - i) = j by omega, ← e] at e2
      have := itA_inj hr.1 i e2
      exact k5 (j - i) (by omega) ⟨by omega, this.symm⟩
    intro i j h1 h2 e
    rcases Nat.lt_trichotomy i j with l | l | l
    · exact absurd (half i j l h2 e) id
    · exact l
    · exact absurd (half j i l h1 e.symm) id
  have all : ∀ v, v < 7 → (nb u).testBit v = true → ∃ i, i < K ∧ itA ρ i x0 = 7 * u + v := by
    intro v hv hb
    have gv : gngB nb (7 * u + v) := ⟨by omega, by rw [show (7 * u + v) / 7 = u by omega, show (7 * u + v) % 7 = v by omega]; exact hb⟩
    obtain ⟨k, hk⟩ := hr.2.2.2 x0 _ g0 gv (by omega)
    refine ⟨k % K, Nat.mod_lt _ k3, ?_⟩
    have e := itA_add (f := ρ) (x := x0) (b := K * (k / K)) (k % K)
    rw [itA_mul k4, show k % K + K * (k / K) = k from Nat.mod_add_div k K, hk] at e
    exact e.symm
  have le1 := cnt_inj (X := fun _ => true) (Y := fun v => (nb u).testBit v) (f := fun i => itA ρ i x0 % 7) (m := 7) K (fun i hi _ => by
    obtain ⟨a, b⟩ := gi i
    have a2 := a.2
    rw [b] at a2
    exact ⟨by omega, a2⟩) (fun i j hi hj _ _ e => dis i j hi hj (by
    have := (gi i).2
    have := (gi j).2
    have e : itA ρ i x0 % 7 = itA ρ j x0 % 7 := e
    omega))
  rw [cnt_T] at le1
  have ch : ∀ v, ∃ i, v < 7 → (nb u).testBit v = true → i < K ∧ itA ρ i x0 = 7 * u + v := fun v => by
    by_cases c : v < 7 ∧ (nb u).testBit v = true
    · obtain ⟨i, a, b⟩ := all v c.1 c.2
      exact ⟨i, fun _ _ => ⟨a, b⟩⟩
    · exact ⟨0, fun a b => absurd ⟨a, b⟩ c⟩
  have le2 := cnt_inj (X := fun v => (nb u).testBit v) (Y := fun _ => true) (f := fun v => Classical.choose (ch v)) (m := K) 7 (fun i hi hb => ⟨(Classical.choose_spec (ch i) hi hb).1, rfl⟩) (fun i j hi hj bi bj e => by
    have a := (Classical.choose_spec (ch i) hi bi).2
    have b := (Classical.choose_spec (ch j) hj bj).2
    have e : Classical.choose (ch i) = Classical.choose (ch j) := e
    rw [e, b] at a
    omega)
  rw [cnt_T] at le2
  have eK : K = degN nb u := Nat.le_antisymm le1 le2
  rw [← eK]
  exact ⟨k4, dis, gi, all⟩
def isLow (nb : Nat → Nat) (u v : Nat) : Prop := v < 7 ∧ (nb u).testBit v = true ∧ ∀ l, l < v → (nb u).testBit l = false
theorem low_ex {nb : Nat → Nat} {u : Nat} (h : 0 < degN nb u) : ∃ v, isLow nb u v := by
  obtain ⟨v, h1, h2⟩ := cnt_ex 7 h
  obtain ⟨k, ⟨k1, k2⟩, k3⟩ := lst_k (P := fun v => v < 7 ∧ (nb u).testBit v = true) v ⟨v, Nat.le_refl _, h1, h2⟩
  refine ⟨k, k1, k2, fun l hl => ?_⟩
  cases e : (nb u).testBit l with
  | false => rfl
  | true => exact absurd ⟨by omega, e⟩ (k3 l hl)
theorem low_u {nb : Nat → Nat} {u v w : Nat} (h : isLow nb u v) (g : isLow nb u w) : v = w := by
  rcases Nat.lt_trichotomy v w with l | l | l
  · have := g.2.2 v l
    rw [h.2.1] at this
    exact absurd this (by decide)
  · exact l
  · have := h.2.2 w l
    rw [g.2.1] at this
    exact absurd this (by decide)
theorem rot_T {nb ρ : Nat → Nat} (hr : rotE nb ρ) : ∃ t s, okR nb t s 7 ∧ (∀ x, roT nb t s 7 x = ρ x) ∧ ∀ u, u < 7 → 0 < degN nb u → isLow nb u (t (sdN nb u)) := by
  have lo : ∀ u, ∃ v, 0 < degN nb u → isLow nb u v := fun u => by
    by_cases c : 0 < degN nb u
    · obtain ⟨v, hv⟩ := low_ex c
      exact ⟨v, fun _ => hv⟩
    · exact ⟨0, fun h => absurd h c⟩
  obtain ⟨low, hlow⟩ : ∃ low : Nat → Nat, ∀ u, 0 < degN nb u → isLow nb u (low u) := ⟨fun u => Classical.choose (lo u), fun u => Classical.choose_spec (lo u)⟩
  have si : ∀ x, ∃ i, gngB nb x → i < degN nb (x / 7) ∧ itA ρ i (7 * (x / 7) + low (x / 7)) = x := fun x => by
    by_cases g : gngB nb x
    · have x49 := g.1
      have hd : 0 < degN nb (x / 7) := cnt_pos (X := fun v => (nb (x / 7)).testBit v) g.2 (show x % 7 < 7 by omega)
      obtain ⟨l1, l2, l3⟩ := hlow _ hd
      obtain ⟨i, i1, i2⟩ := (rot_per hr (show x / 7 < 7 by omega) l1 l2).2.2.2 (x % 7) (by omega) g.2
      exact ⟨i, fun _ => ⟨i1, by rw [i2]; omega⟩⟩
    · exact ⟨0, fun h => absurd h g⟩
  obtain ⟨ix, hix⟩ : ∃ ix : Nat → Nat, ∀ x, gngB nb x → ix x < degN nb (x / 7) ∧ itA ρ (ix x) (7 * (x / 7) + low (x / 7)) = x := ⟨fun x => Classical.choose (si x), fun x => Classical.choose_spec (si x)⟩
  obtain ⟨t, ht⟩ : ∃ t : Nat → Nat, ∀ p, t p = itA ρ (p - sdN nb (owN nb p)) (7 * owN nb p + low (owN nb p)) % 7 := ⟨_, fun _ => rfl⟩
  obtain ⟨s, hs⟩ : ∃ s : Nat → Nat, ∀ x, s x = sdN nb (x / 7) + ix x := ⟨_, fun _ => rfl⟩
  have pos : ∀ u p, plB nb u p → 0 < degN nb u := fun u p h => by
    have h1 := h.1
    have h2 : p < sdN nb u + degN nb u := h.2
    omega
  have ok : okR nb t s 7 := by
    intro u hu p hp
    have hd := pos u p hp
    obtain ⟨l1, l2, l3⟩ := hlow u hd
    obtain ⟨r1, r2, r3, r4⟩ := rot_per hr hu l1 l2
    have et : t p = itA ρ (p - sdN nb u) (7 * u + low u) % 7 := by rw [ht, ow_pl hu hp]
    obtain ⟨g1, g2⟩ := r3 (p - sdN nb u)
    have gb := g1.2
    rw [g2, ← et] at gb
    have ex : 7 * u + t p = itA ρ (p - sdN nb u) (7 * u + low u) := by omega
    refine ⟨by omega, gb, ?_⟩
    have hp1 := hp.1
    have hp2 : p < sdN nb u + degN nb u := hp.2
    have hx := hix _ g1
    rw [ex, hs, g2]
    rw [g2] at hx
    have := r2 _ _ hx.1 (show p - sdN nb u < degN nb u by omega) hx.2
    omega
  refine ⟨t, s, ok, fun x => ?_, fun u hu hd => ?_⟩
  · by_cases g : gngB (nbF nb 7) x
    · have g' := (nbF_g.mp g).1
      have x49 := g'.1
      obtain ⟨e1, _, e3, e4, _, _⟩ := roT_y ok g
      have hd := pos _ _ e3
      obtain ⟨l1, l2, l3⟩ := hlow _ hd
      obtain ⟨r1, r2, r3, r4⟩ := rot_per hr (show x / 7 < 7 by omega) l1 l2
      obtain ⟨i1, i2⟩ := hix x g'
      have es : s x = sdN nb (x / 7) + ix x := hs x
      have ec : itA ρ (cycN nb (x / 7) (s x) - sdN nb (x / 7)) (7 * (x / 7) + low (x / 7)) = ρ x := by
        unfold cycN
        have en : sdN nb (x / 7 + 1) = sdN nb (x / 7) + degN nb (x / 7) := rfl
        by_cases c : s x + 1 = sdN nb (x / 7 + 1)
        · rw [if_pos c, Nat.sub_self]
          show 7 * (x / 7) + low (x / 7) = ρ x
          rw [← i2]
          have : itA ρ (ix x + 1) (7 * (x / 7) + low (x / 7)) = 7 * (x / 7) + low (x / 7) := by
            rw [show ix x + 1 = degN nb (x / 7) by omega]
            exact r1
          rw [i2]
          rw [← this]
          show ρ (itA ρ (ix x) _) = ρ x
          rw [i2]
        · rw [if_neg c, show s x + 1 - sdN nb (x / 7) = ix x + 1 by omega]
          show ρ (itA ρ (ix x) _) = ρ x
          rw [i2]
      rw [e1, ht, ow_pl (show x / 7 < 7 by omega) (cyc_pl e3), ec]
      have := hr.2.1 x
      omega
    · rw [roT_n g, hr.2.2.1 x (fun w => g (nbF_g.mpr ⟨w, by have := w.1; omega⟩))]
  · have en : sdN nb (u + 1) = sdN nb u + degN nb u := rfl
    have hp : plB nb u (sdN nb u) := ⟨Nat.le_refl _, by omega⟩
    rw [ht, ow_pl hu hp, Nat.sub_self]
    have := hlow u hd
    rw [show itA ρ 0 (7 * u + low u) % 7 = low u from by
      show (7 * u + low u) % 7 = low u
      have := this.1
      omega]
    exact this
end
