/-! THE PURE PART, drawings: what follows a going, by places; the walks counted by places. -/
section
/-- a going among the nodes up to l -/
def plL (nb t : Nat → Nat) (l p : Nat) : Prop := p < sdN nb (l + 1) ∧ t p ≤ l
def gxN (nb t : Nat → Nat) (p : Nat) : Nat := 7 * owN nb p + t p
noncomputable def bhP (nb t s : Nat → Nat) (l p : Nat) : Nat := @ite _ (plL nb t l p) (Classical.propDecidable _) (s (frS nb t s l (alE (nbL nb l) (gxN nb t p)))) p
theorem pl_own {nb : Nat → Nat} {l p : Nat} (hl : l < 7) (h : p < sdN nb (l + 1)) : owN nb p ≤ l ∧ plB nb (owN nb p) p := by
  obtain ⟨u, u1, u2⟩ := pl_ex (l + 1) h
  have := ow_pl (show u < 7 by omega) u2
  rw [this]
  exact ⟨by omega, u2⟩
theorem pl_lt {nb : Nat → Nat} {u l p : Nat} (hu : u ≤ l) (h : plB nb u p) : p < sdN nb (l + 1) := by
  have h2 := h.2
  have := sdN_mono (nb := nb) (a := u + 1) (l + 1) (by omega)
  omega
theorem gx_g {nb t s : Nat → Nat} {l p : Nat} (hl : l < 7) (h : okR nb t s (l + 1)) (hp : plL nb t l p) : gngB (nbL nb l) (gxN nb t p) ∧ gxN nb t p / 7 = owN nb p ∧ gxN nb t p % 7 = t p ∧ s (gxN nb t p) = p := by
  obtain ⟨o1, o2⟩ := pl_own hl hp.1
  obtain ⟨a, b, c⟩ := h _ (by omega) p o2
  have d : gxN nb t p / 7 = owN nb p := by unfold gxN; omega
  have m : gxN nb t p % 7 = t p := by unfold gxN; omega
  refine ⟨nbL_g.mpr ⟨⟨by unfold gxN; omega, by rw [d, m]; exact b⟩, by rw [d]; exact o1, by rw [m]; exact hp.2⟩, d, m, c⟩
theorem bh_y {nb t s : Nat → Nat} {l p : Nat} (hs : symB nb) (hl : l < 7) (h : okR nb t s (l + 1)) (hp : plL nb t l p) : bhP nb t s l p = s (frS nb t s l (alE (nbL nb l) (gxN nb t p))) ∧ plL nb t l (bhP nb t s l p) ∧ gxN nb t (bhP nb t s l p) = frS nb t s l (alE (nbL nb l) (gxN nb t p)) := by
  have e : bhP nb t s l p = s (frS nb t s l (alE (nbL nb l) (gxN nb t p))) := if_pos hp
  have g1 := (gx_g hl h hp).1
  have g2 := (alE_g (nbL_s hs) g1).2
  have g3 := rot_g (frS_ok hl h).1 g2
  obtain ⟨z1, z2, z3⟩ := nbL_g.mp g3
  rw [e]
  obtain ⟨z, hz⟩ : ∃ z, z = frS nb t s l (alE (nbL nb l) (gxN nb t p)) := ⟨_, rfl⟩
  rw [← hz] at z1 z2 z3
  rw [← hz]
  have z49 := z1.1
  have su := okT_sur h (show z / 7 < l + 1 by omega) (show z % 7 < 7 by omega) z1.2
  rw [show 7 * (z / 7) + z % 7 = z by omega] at su
  refine ⟨rfl, ⟨pl_lt z2 su.1, by rw [su.2]; exact z3⟩, ?_⟩
  unfold gxN
  rw [ow_pl (by omega) su.1, su.2]
  omega
theorem gx_inj {nb t s : Nat → Nat} {l p q : Nat} (hl : l < 7) (h : okR nb t s (l + 1)) (hp : plL nb t l p) (hq : plL nb t l q) (e : gxN nb t p = gxN nb t q) : p = q := by
  rw [← (gx_g hl h hp).2.2.2, e, (gx_g hl h hq).2.2.2]
theorem bh_prm {nb t s : Nat → Nat} {l : Nat} (hs : symB nb) (hl : l < 7) (h : okR nb t s (l + 1)) : prmN (bhP nb t s l) (sdN nb (l + 1)) := by
  have n : ∀ x, ¬ plL nb t l x → bhP nb t s l x = x := fun x c => if_neg c
  refine ⟨fun x hx => ?_, fun x hx => n x (fun c => by have := c.1; omega), fun x y e => ?_⟩
  · by_cases c : plL nb t l x
    · exact (bh_y hs hl h c).2.1.1
    · rw [n x c]; exact hx
  · by_cases c : plL nb t l x
    · by_cases d : plL nb t l y
      · have e2 := (bh_y hs hl h c).2.2
        rw [e, (bh_y hs hl h d).2.2] at e2
        have := (cmp_prm (alE_inv (nbL_s hs)).1 (frS_ok hl h).1.1).2.2 _ _ e2
        exact (gx_inj hl h d c this).symm
      · have := (bh_y hs hl h c).2.1
        rw [e, n y d] at this
        exact absurd this d
    · by_cases d : plL nb t l y
      · have := (bh_y hs hl h d).2.1
        rw [← e, n x c] at this
        exact absurd this c
      · rw [← n x c, e, n y d]
theorem bh_it {nb t s : Nat → Nat} {l p : Nat} (hs : symB nb) (hl : l < 7) (h : okR nb t s (l + 1)) (hp : plL nb t l p) : ∀ k, plL nb t l (itA (bhP nb t s l) k p) ∧ gxN nb t (itA (bhP nb t s l) k p) = itA (fun x => frS nb t s l (alE (nbL nb l) x)) k (gxN nb t p)
  | 0 => ⟨hp, rfl⟩
  | k + 1 => by
    obtain ⟨i1, i2⟩ := bh_it hs hl h hp k
    obtain ⟨_, b, c⟩ := bh_y hs hl h i1
    refine ⟨b, ?_⟩
    show gxN nb t (bhP nb t s l (itA (bhP nb t s l) k p)) = frS nb t s l (alE (nbL nb l) (itA (fun x => frS nb t s l (alE (nbL nb l) x)) k (gxN nb t p)))
    rw [c, i2]
noncomputable def plb (nb t : Nat → Nat) (l p : Nat) : Bool := decide (p < sdN nb (l + 1)) && decide (t p ≤ l)
theorem plb_t {nb t : Nat → Nat} {l p : Nat} : plb nb t l p = true ↔ plL nb t l p := by
  unfold plb plL
  rw [Bool.and_eq_true, decide_eq_true_iff, decide_eq_true_iff]
/-- the walks by places are those by goings -/
theorem wk_pl {nb t s : Nat → Nat} {l : Nat} (hs : symB nb) (hl : l < 7) (h : okR nb t s (l + 1)) : clG (plb nb t l) (orbN (bhP nb t s l)) (sdN nb (l + 1)) = wkE (nbL nb l) (frS nb t s l) := by
  have hc := cmp_prm (alE_inv (nbL_s (l := l) hs)).1 (frS_ok hl h).1.1
  refine cls_rel (T := fun p x => x = gxN nb t p) (orb_eqv (bh_prm hs hl h)) (orb_eqv hc) (fun p hp g => ?_) (fun x hx g => ?_) (fun p p' x x' hp hp' hx hx' g g' _ _ e e' => ?_)
  · have := (gx_g hl h (plb_t.mp g)).1
    exact ⟨_, this.1, gngb_t.mpr this, rfl⟩
  · obtain ⟨z1, z2, z3⟩ := nbL_g.mp (gngb_t.mp g)
    have su := okT_sur h (show x / 7 < l + 1 by omega) (show x % 7 < 7 by omega) z1.2
    rw [show 7 * (x / 7) + x % 7 = x by omega] at su
    refine ⟨s x, pl_lt z2 su.1, plb_t.mpr ⟨pl_lt z2 su.1, by rw [su.2]; exact z3⟩, ?_⟩
    unfold gxN
    rw [ow_pl (by omega) su.1, su.2]
    omega
  · have g := plb_t.mp g
    have g' := plb_t.mp g'
    rw [e, e']
    constructor
    · rintro ⟨k, hk⟩
      exact ⟨k, by rw [← (bh_it hs hl h g k).2, hk]⟩
    · rintro ⟨k, hk⟩
      refine ⟨k, gx_inj hl h (bh_it hs hl h g k).1 g' ?_⟩
      rw [(bh_it hs hl h g k).2, hk]
/-- what is due is there iff the walks are as many -/
theorem wOK_num {nb t s : Nat → Nat} {l : Nat} (hs : symB nb) (hlp : ∀ u, u < 7 → (nb u).testBit u = false) (hl : l < 7) (h : okR nb t s (l + 1)) : wOK nb t s l ↔ sdN (nbL nb l) 7 + 4 * ptE (nbL nb l) = 2 * ndE (nbL nb l) + 2 * clG (plb nb t l) (orbN (bhP nb t s l)) (sdN nb (l + 1)) := by
  have := gnZ_num (nbL_s (l := l) hs) (nbL_l hlp) (frS_ok hl h).1
  rw [← wk_pl hs hl h] at this
  unfold wOK
  omega
theorem roT_cy {nb t s : Nat → Nat} {L u p : Nat} (hL : L ≤ 7) (h : okR nb t s L) (hu : u < L) (hp : plB nb u p) : ∀ k, plB nb u (itA (cycN nb u) k p) ∧ itA (roT nb t s L) k (7 * u + t p) = 7 * u + t (itA (cycN nb u) k p)
  | 0 => ⟨hp, rfl⟩
  | k + 1 => by
    obtain ⟨i1, i2⟩ := roT_cy hL h hu hp k
    refine ⟨cyc_pl i1, ?_⟩
    obtain ⟨a, b, c⟩ := h u hu _ i1
    have d : (7 * u + t (itA (cycN nb u) k p)) / 7 = u := by omega
    have m : (7 * u + t (itA (cycN nb u) k p)) % 7 = t (itA (cycN nb u) k p) := by omega
    have g : gngB (nbF nb L) (7 * u + t (itA (cycN nb u) k p)) := nbF_g.mpr ⟨⟨by omega, by rw [d, m]; exact b⟩, by rw [d]; exact hu⟩
    show roT nb t s L (itA (roT nb t s L) k (7 * u + t p)) = _
    rw [i2, (roT_y h g).1, d, c]
    rfl
/-- how the class finds it: step by step in the round of the node where the going ends -/
theorem bh_find {nb t s : Nat → Nat} {l p : Nat} (hs : symB nb) (hl : l < 7) (h : okR nb t s (l + 1)) (hp : plL nb t l p) : plB nb (t p) (s (7 * t p + owN nb p)) ∧ ∃ k, k < degN nb (t p) ∧ bhP nb t s l p = itA (cycN nb (t p)) (k + 1) (s (7 * t p + owN nb p)) ∧ t (itA (cycN nb (t p)) (k + 1) (s (7 * t p + owN nb p))) ≤ l ∧ ∀ j, j < k → ¬ t (itA (cycN nb (t p)) (j + 1) (s (7 * t p + owN nb p))) ≤ l := by
  obtain ⟨b1, b2, b3⟩ := bh_y hs hl h hp
  obtain ⟨g1, g2, g3, g4⟩ := gx_g hl h hp
  obtain ⟨y1, y2⟩ := alE_g (nbL_s hs) g1
  rw [g2, g3] at y1
  rw [y1] at b1 b3 y2
  obtain ⟨o1, o2⟩ := pl_own hl hp.1
  have tl := hp.2
  obtain ⟨q, hq⟩ : ∃ q, q = s (7 * t p + owN nb p) := ⟨_, rfl⟩
  have d : (7 * t p + owN nb p) / 7 = t p := by omega
  have m : (7 * t p + owN nb p) % 7 = owN nb p := by omega
  obtain ⟨z1, z2, z3⟩ := nbL_g.mp y2
  have zb := z1.2
  rw [d, m] at zb
  have su := okT_sur h (show t p < l + 1 by omega) (show owN nb p < 7 by omega) zb
  rw [← hq] at su ⊢
  refine ⟨su.1, ?_⟩
  obtain ⟨f1, k, f2, f3⟩ := (frS_ok hl h).2 _ y2
  have cy := roT_cy (show l + 1 ≤ 7 by omega) h (show t p < l + 1 by omega) su.1
  rw [su.2] at cy
  have gA : ∀ j, gngB (nbL nb l) (itA (roT nb t s (l + 1)) j (7 * t p + owN nb p)) ↔ t (itA (cycN nb (t p)) j q) ≤ l := fun j => by
    obtain ⟨c1, c2⟩ := cy j
    obtain ⟨a1, a2, a3⟩ := h _ (show t p < l + 1 by omega) _ c1
    rw [c2, nbL_g]
    have d2 : (7 * t p + t (itA (cycN nb (t p)) j q)) / 7 = t p := by omega
    have m2 : (7 * t p + t (itA (cycN nb (t p)) j q)) % 7 = t (itA (cycN nb (t p)) j q) := by omega
    rw [d2, m2]
    exact ⟨fun w => w.2.2, fun w => ⟨⟨by omega, by rw [d2, m2]; exact a2⟩, tl, w⟩⟩
  have per := (rot_per (roT_rot (show l + 1 ≤ 7 by omega) h) (show t p < 7 by omega) (show owN nb p < 7 by omega) (show (nbF nb (l + 1) (t p)).testBit (owN nb p) = true from by
    unfold nbF
    rw [if_pos (by omega)]
    exact zb)).1
  have ed : degN (nbF nb (l + 1)) (t p) = degN nb (t p) := by
    unfold degN nbF
    rw [if_pos (by omega)]
  rw [ed] at per
  refine ⟨k, ?_, ?_, ?_, fun j hj => fun w => f3 j hj ((gA (j + 1)).mpr w)⟩
  · apply Classical.byContradiction
    intro c
    have dp : 0 < degN nb (t p) := cnt_pos (X := fun v => (nb (t p)).testBit v) zb (show owN nb p < 7 by omega)
    refine f3 (degN nb (t p) - 1) (by omega) ?_
    rw [show degN nb (t p) - 1 + 1 = degN nb (t p) by omega, per]
    exact y2
  · rw [b1, f2, (cy (k + 1)).2]
    obtain ⟨c1, c2⟩ := cy (k + 1)
    exact (h _ (show t p < l + 1 by omega) _ c1).2.2
  · rw [f2] at f1
    exact (gA (k + 1)).mp f1
end
