/-! THE PURE PART, drawings: a least set that is not drawn is taken by the judge of cores. -/
section
theorem syW_s {W : Nat} (h : syW W = true) : symB (nbW W) := fun u v hu hv => by
  have := Nat.eq_of_beq_eq_true (allN_t h (7 * u + v) (by omega))
  rw [show (7 * u + v) % 7 = v by omega, show (7 * u + v) / 7 = u by omega] at this
  rw [nbW_t hv, nbW_t hu]
  have e : ∀ a b : Nat, a % 2 = b % 2 → a.testBit 0 = b.testBit 0 := fun a b w => by
    rw [Nat.testBit_zero, Nat.testBit_zero, w]
  have := e _ _ this
  rw [Nat.testBit_shiftRight, Nat.testBit_shiftRight, Nat.add_zero, Nat.add_zero] at this
  exact this.symm
theorem kur_min {nb : Nat → Nat} (hs : symB nb) (hl : ∀ u, u < 7 → (nb u).testBit u = false) (h0 : ∀ u, 7 ≤ u → nb u = 0) (h7 : ∀ u, nb u < 128) (h22 : sdN nb 7 ≤ 22) (hn : ¬ drnE nb) (hm : ∀ a b, a < 7 → b < 7 → (nb a).testBit b = true → drnE (rmvE nb a b)) : jcB nb (kdN nb) = true := by
  have sc : cnt (gngb nb) 49 = sdN nb 7 := sdN_e (nb := nb) 7 (by decide)
  have ld : ∀ x, gngB nb x → x / 7 ≠ x % 7 := fun x g e => by
    have x49 := g.1
    have := g.2
    rw [← e, hl _ (by omega)] at this
    exact absurd this (by decide)
  have tg : ∀ x, x < 49 → (gngB nb (tpN x) ↔ gngB nb x) := fun x hx => by
    unfold gngB tpN
    rw [show (7 * (x % 7) + x / 7) / 7 = x % 7 by omega, show (7 * (x % 7) + x / 7) % 7 = x / 7 by omega, hs (x % 7) (x / 7) (by omega) (by omega)]
    exact ⟨fun w => ⟨hx, w.2⟩, fun w => ⟨by omega, w.2⟩⟩
  have k := kur (G := gngb nb) (fun x hx => by
    rw [Bool.eq_iff_iff, gngb_t, gngb_t]
    exact tg x hx) (fun x hx => ⟨(gngb_t.mp hx).1, ld x (gngb_t.mp hx)⟩)
  rcases k with k | ⟨C, ⟨c1, c2⟩, c3⟩ | ⟨M, ⟨m1, m2⟩, m3⟩
  · omega
  · unfold crB at c1
    rw [Bool.and_eq_true] at c1
    obtain ⟨c1, c4⟩ := c1
    have cs := syW_s c4
    have sub : ∀ x, gngB (nbW C) x → gngB nb x := fun x g => by
      obtain ⟨a, b⟩ := nbW_g.mp g
      exact gngb_t.mp (c3 x a b)
    have cl : ∀ u, u < 7 → (nbW C u).testBit u = false := fun u hu => by
      cases z : (nbW C u).testBit u with
      | false => rfl
      | true =>
        have := (sub (7 * u + u) ⟨by omega, by rw [show (7 * u + u) / 7 = u by omega, show (7 * u + u) % 7 = u by omega]; exact z⟩).2
        rw [show (7 * u + u) / 7 = u by omega, show (7 * u + u) % 7 = u by omega, hl u hu] at this
        exact this.symm
    have c22 : sdN (nbW C) 7 ≤ 22 := by
      have e : cnt (gngb (nbW C)) 49 = sdN (nbW C) 7 := sdN_e (nb := nbW C) 7 (by decide)
      have := cnt_le (X := gngb (nbW C)) (Y := gngb nb) 49 (fun x _ hx => gngb_t.mpr (sub x (gngb_t.mp hx)))
      omega
    have cn := jc_not cs cl c22 c1
    have all : ∀ x, gngB nb x → gngB (nbW C) x := fun x g => by
      apply Classical.byContradiction
      intro c
      have x49 := g.1
      have d := hm (x / 7) (x % 7) (by omega) (by omega) g.2
      have rt := fun u v => rmvE_t (nb := nb) (a := x / 7) (b := x % 7) (u := u) (v := v) (ld x g)
      refine cn (drn_sub cs (fun u hu => ?_) (fun y gy => ?_) d)
      · cases z : (rmvE nb (x / 7) (x % 7) u).testBit u with
        | false => rfl
        | true =>
          have := ((rt u u).mp z).1
          rw [hl u hu] at this
          exact this.symm
      · refine ⟨gy.1, (rt _ _).mpr ⟨(sub y gy).2, fun w => c ?_, fun w => c ?_⟩⟩
        · rw [show x = y by omega]
          exact gy
        · have e : alE (nbW C) y = x := by
            rw [(alE_g cs gy).1]
            omega
          rw [← e]
          exact (alE_g cs gy).2
    have e : nb = nbW C := by
      funext u
      by_cases hu : u < 7
      · refine nb_ext fun v => ?_
        by_cases hv : v < 7
        · rw [Bool.eq_iff_iff]
          have d : (7 * u + v) / 7 = u := by omega
          have m : (7 * u + v) % 7 = v := by omega
          constructor
          · intro w
            have := (all (7 * u + v) ⟨by omega, by rw [d, m]; exact w⟩).2
            rw [d, m] at this
            exact this
          · intro w
            have := (sub (7 * u + v) ⟨by omega, by rw [d, m]; exact w⟩).2
            rw [d, m] at this
            exact this
        · rw [nb_big (n := 7) (h7 u) (by omega), nb_big (n := 7) (show nbW C u < 2 ^ 7 from Nat.mod_lt _ (by decide)) (by omega)]
      · rw [h0 u (by omega)]
        refine nb_ext fun v => ?_
        rw [Nat.zero_testBit]
        by_cases hv : v < 7
        · rw [nbW_t hv, nb_big c2 (by omega)]
        · rw [nb_big (n := 7) (show nbW C u < 2 ^ 7 from Nat.mod_lt _ (by decide)) (by omega)]
    rw [e]
    exact c1
  · exact absurd (drn_sub hs m2 (fun x g => nbW_g.mpr ⟨g.1, m3 x (gngb_t.mpr g)⟩) m1) hn
end
