/-! THE PURE PART, drawings: what is left of a drawing without some edges: the first going of each round that is left. -/
section
theorem alE_c {nb nb' : Nat → Nat} (h : ∀ x, gngB nb x ↔ gngB nb' x) : alE nb = alE nb' := by
  funext x
  by_cases g : gngB nb x
  · rw [show alE nb x = 7 * (x % 7) + x / 7 from if_pos g, show alE nb' x = 7 * (x % 7) + x / 7 from if_pos ((h x).mp g)]
  · rw [alE_n g, alE_n (fun w => g ((h x).mpr w))]
theorem rot_c {nb nb' ρ : Nat → Nat} (h : ∀ x, gngB nb x ↔ gngB nb' x) (hr : rotE nb ρ) : rotE nb' ρ := ⟨hr.1, hr.2.1, fun x g => hr.2.2.1 x (fun w => g ((h x).mp w)), fun x y gx gy => hr.2.2.2 x y ((h x).mpr gx) ((h y).mpr gy)⟩
theorem her_step {nb ρ : Nat → Nat} {a b : Nat} (ha : a < 7) (hb : b < 7) (ne : a ≠ b) (hE : (nb a).testBit b = true) (hs : symB nb) (hr : rotE nb ρ) (h0 : gnZ (alE nb) ρ 49 = 0) : symB (rmvE nb a b) ∧ (∀ x, gngB (rmvE nb a b) x ↔ (gngB nb x ∧ x ≠ 7 * a + b) ∧ x ≠ 7 * b + a) ∧ rotE (rmvE nb a b) (skpN (skpN ρ (7 * a + b)) (7 * b + a)) ∧ gnZ (alE (rmvE nb a b)) (skpN (skpN ρ (7 * a + b)) (7 * b + a)) 49 = 0 ∧ prmN (skpN ρ (7 * a + b)) 49 := by
  have hs' : symB (rmvE nb a b) := fun u v hu hv => by
    have t1 := rmvE_t (nb := nb) (u := u) (v := v) ne
    have t2 := rmvE_t (nb := nb) (u := v) (v := u) ne
    have s := hs u v hu hv
    rw [← s] at t2
    have : (rmvE nb a b u).testBit v = true ↔ (rmvE nb a b v).testBit u = true := by
      rw [t1, t2]
      exact ⟨fun w => ⟨w.1, fun y => w.2.2 ⟨y.2, y.1⟩, fun y => w.2.1 ⟨y.2, y.1⟩⟩, fun w => ⟨w.1, fun y => w.2.2 ⟨y.2, y.1⟩, fun y => w.2.1 ⟨y.2, y.1⟩⟩⟩
    exact Bool.eq_iff_iff.mpr this
  have ea : alE nb (7 * a + b) = 7 * b + a := alE_y ha hb hE
  have g' : ∀ x, gngB (rmvE nb a b) x ↔ (gngB nb x ∧ x ≠ 7 * a + b) ∧ x ≠ 7 * b + a := fun x => by
    unfold gngB
    rw [rmvE_t ne]
    constructor
    · rintro ⟨w1, w2, w3, w4⟩
      exact ⟨⟨⟨w1, w2⟩, fun y => w3 (by omega)⟩, fun y => w4 (by omega)⟩
    · rintro ⟨⟨⟨w1, w2⟩, w3⟩, w4⟩
      exact ⟨w1, w2, fun y => w3 (by omega), fun y => w4 (by omega)⟩
  have eα : alE (rmvE nb a b) = swpN (alE nb) (7 * a + b) (alE nb (7 * a + b)) := by
    funext x
    rw [ea]
    by_cases x1 : x = 7 * a + b
    · rw [x1, swp_a, ← ea, alE_two hs]
      exact alE_n (fun w => ((g' _).mp w).1.2 rfl)
    · by_cases x2 : x = 7 * b + a
      · rw [x2, swp_b, ea]
        exact alE_n (fun w => ((g' _).mp w).2 rfl)
      · rw [swp_n x1 x2]
        by_cases g : gngB nb x
        · rw [show alE (rmvE nb a b) x = 7 * (x % 7) + x / 7 from if_pos ((g' x).mpr ⟨⟨g, x1⟩, x2⟩), show alE nb x = 7 * (x % 7) + x / 7 from if_pos g]
        · rw [alE_n g, alE_n (fun w => g ((g' x).mp w).1.1)]
  have her := gn_her (alE_inv hs) hr.1 (show 7 * a + b < 49 by omega) (by rw [ea]; omega) h0
  rw [← eα, ea] at her
  obtain ⟨h1, h2, h3, h4⟩ := hr
  have r1 : prmN (skpN ρ (7 * a + b)) 49 := skp_prm h1 (by omega)
  refine ⟨hs', g', ?_, her, r1⟩
  have mid : rotE (fun u => if u = a then nsd (nb u) (2 ^ b) else nb u) (skpN ρ (7 * a + b)) := by
    refine skp_rot ⟨h1, h2, h3, h4⟩ (by omega) (fun x => ?_)
    unfold gngB
    dsimp only
    by_cases u1 : x / 7 = a
    · rw [if_pos u1, nsd_bit, Nat.testBit_two_pow, Bool.and_eq_true, Bool.not_eq_true', decide_eq_false_iff_not]
      exact ⟨fun w => ⟨⟨w.1, w.2.1⟩, fun y => w.2.2 (by omega)⟩, fun w => ⟨w.1.1, w.1.2, fun y => w.2 (by omega)⟩⟩
    · rw [if_neg u1]
      exact ⟨fun w => ⟨w, fun y => u1 (by omega)⟩, fun w => w.1⟩
  refine skp_rot mid (by omega) (fun x => ?_)
  rw [g']
  unfold gngB
  dsimp only
  by_cases u1 : x / 7 = a
  · rw [if_pos u1, nsd_bit, Nat.testBit_two_pow, Bool.and_eq_true, Bool.not_eq_true', decide_eq_false_iff_not]
    exact ⟨fun w => ⟨⟨w.1.1.1, w.1.1.2, fun y => w.1.2 (by omega)⟩, w.2⟩, fun w => ⟨⟨⟨w.1.1, w.1.2.1⟩, fun y => w.1.2.2 (by omega)⟩, w.2⟩⟩
  · rw [if_neg u1]
    exact ⟨fun w => ⟨w.1.1, w.2⟩, fun w => ⟨⟨w.1, fun y => u1 (by omega)⟩, w.2⟩⟩
/-- s leads to the first one in A behind it -/
def frtN (ρ σ : Nat → Nat) (A : Nat → Prop) : Prop := ∀ x, A x → A (σ x) ∧ ∃ k, σ x = itA ρ (k + 1) x ∧ ∀ j, j < k → ¬ A (itA ρ (j + 1) x)
theorem frt_one {ρ σ : Nat → Nat} {A : Nat → Prop} (h : frtN ρ σ A) {x k : Nat} (hx : A x) (hk : A (itA ρ (k + 1) x)) (hl : ∀ j, j < k → ¬ A (itA ρ (j + 1) x)) : σ x = itA ρ (k + 1) x := by
  obtain ⟨h1, k', h2, h3⟩ := h x hx
  rcases Nat.lt_trichotomy k k' with l | l | l
  · exact absurd hk (h3 k l)
  · rw [h2, l]
  · rw [h2] at h1
    exact absurd h1 (hl k' l)
theorem frt_skp {ρ σ : Nat → Nat} {N d : Nat} {A A' : Nat → Prop} (hp : prmN σ N) (h : frtN ρ σ A) (hA : ∀ x, A' x ↔ A x ∧ x ≠ d) : frtN ρ (skpN σ d) A' := by
  intro x hx
  obtain ⟨ax, xd⟩ := (hA x).mp hx
  obtain ⟨h1, k, h2, h3⟩ := h x ax
  unfold skpN
  rw [if_neg xd]
  by_cases e : σ x = d
  · rw [if_pos e]
    have ad : A d := by rw [← e]; exact h1
    obtain ⟨g1, l, g2, g3⟩ := h d ad
    have nd : σ d ≠ d := fun w => xd (hp.2.2 _ _ (by rw [e, w]))
    refine ⟨(hA _).mpr ⟨g1, nd⟩, k + 1 + l, ?_, fun j hj w => ?_⟩
    · rw [show k + 1 + l + 1 = (l + 1) + (k + 1) by omega, itA_add, ← h2, e, g2]
    · obtain ⟨w1, w2⟩ := (hA _).mp w
      rcases Nat.lt_trichotomy j k with c | c | c
      · exact h3 j c w1
      · rw [c, ← h2, e] at w2
        exact w2 rfl
      · obtain ⟨i, hi⟩ : ∃ i, j = k + 1 + i := ⟨j - k - 1, by omega⟩
        rw [hi, show k + 1 + i + 1 = (i + 1) + (k + 1) by omega, itA_add, ← h2, e] at w1
        exact g3 i (by omega) w1
  · rw [if_neg e]
    exact ⟨(hA _).mpr ⟨h1, e⟩, k, h2, fun j hj w => h3 j hj ((hA _).mp w).1⟩
theorem her_sub {nb' ρ0 : Nat → Nat} (hs' : symB nb') : ∀ n (nb ρ : Nat → Nat), cnt (gngb nb) 49 ≤ n → symB nb → (∀ u, u < 7 → (nb u).testBit u = false) → rotE nb ρ → gnZ (alE nb) ρ 49 = 0 → (∀ x, gngB nb' x → gngB nb x) → frtN ρ0 ρ (gngB nb) → ∃ σ, rotE nb' σ ∧ gnZ (alE nb') σ 49 = 0 ∧ frtN ρ0 σ (gngB nb') := by
  intro n
  induction n with
  | zero =>
    intro nb ρ hn hs hl hr h0 sub hf
    have e : ∀ x, gngB nb x ↔ gngB nb' x := fun x => ⟨fun g => by
      have := cnt_pos (X := gngb nb) (gngb_t.mpr g) g.1
      omega, sub x⟩
    refine ⟨ρ, rot_c e hr, by rw [← alE_c e]; exact h0, fun x gx => ?_⟩
    obtain ⟨a, k, b, c⟩ := hf x ((e x).mpr gx)
    exact ⟨(e _).mp a, k, b, fun j hj w => c j hj ((e _).mpr w)⟩
  | succ n ih =>
    intro nb ρ hn hs hl hr h0 sub hf
    by_cases c : ∃ x, gngB nb x ∧ ¬ gngB nb' x
    · obtain ⟨x, gx, ngx⟩ := c
      have x49 := gx.1
      have ne : x / 7 ≠ x % 7 := fun e => by
        have := hl (x / 7) (by omega)
        have g2 := gx.2
        rw [← e, this] at g2
        exact absurd g2 (by decide)
      obtain ⟨s1, s2, s3, s4, s5⟩ := her_step (show x / 7 < 7 by omega) (show x % 7 < 7 by omega) ne gx.2 hs hr h0
      have ngy : ¬ gngB nb' (7 * (x % 7) + x / 7) := fun w => ngx (by
        have := (alE_g hs' w)
        rw [this.1] at this
        have t := this.2
        rw [show 7 * ((7 * (x % 7) + x / 7) % 7) + (7 * (x % 7) + x / 7) / 7 = x by omega] at t
        exact t)
      have lt : cnt (gngb (rmvE nb (x / 7) (x % 7))) 49 < cnt (gngb nb) 49 := cnt_lt (i := x) (fun j _ h => gngb_t.mpr ((s2 j).mp (gngb_t.mp h)).1.1) x49 (by
        cases e : gngb (rmvE nb (x / 7) (x % 7)) x with
        | false => rfl
        | true => exact absurd (show x = 7 * (x / 7) + x % 7 by omega) ((s2 x).mp (gngb_t.mp e)).1.2) (gngb_t.mpr gx)
      refine ih _ _ (by omega) s1 (fun u hu => ?_) s3 s4 (fun y gy => (s2 y).mpr ⟨⟨sub y gy, fun e => ngx ?_⟩, fun e => ngy ?_⟩) ?_
      · cases e : (rmvE nb (x / 7) (x % 7) u).testBit u with
        | false => rfl
        | true =>
          have := ((rmvE_t ne).mp e).1
          rw [hl u hu] at this
          exact this.symm
      · rw [show x = 7 * (x / 7) + x % 7 by omega, ← e]; exact gy
      · rw [← e]; exact gy
      · have f1 := frt_skp (d := 7 * (x / 7) + x % 7) (A' := fun y => gngB nb y ∧ y ≠ 7 * (x / 7) + x % 7) hr.1 hf (fun y => Iff.rfl)
        exact frt_skp s5 f1 (fun y => s2 y)
    · have e : ∀ x, gngB nb x ↔ gngB nb' x := fun x => ⟨fun g => Classical.byContradiction fun w => c ⟨x, g, w⟩, sub x⟩
      refine ⟨ρ, rot_c e hr, by rw [← alE_c e]; exact h0, fun x gx => ?_⟩
      obtain ⟨a, k, b, c⟩ := hf x ((e x).mpr gx)
      exact ⟨(e _).mp a, k, b, fun j hj w => c j hj ((e _).mpr w)⟩
/-- fewer edges: still drawn -/
theorem drn_sub {nb nb' : Nat → Nat} (hs' : symB nb') (hl : ∀ u, u < 7 → (nb u).testBit u = false) (sub : ∀ x, gngB nb' x → gngB nb x) (h : drnE nb) : drnE nb' := by
  obtain ⟨hs, ρ, hr, h0⟩ := h
  obtain ⟨σ, s1, s2, _⟩ := her_sub (ρ0 := ρ) hs' _ nb ρ (Nat.le_refl _) hs hl hr h0 sub (fun x gx => ⟨Classical.byContradiction fun w => w (by
    -- a going is led to a going
    apply Classical.byContradiction
    intro w2
    have e := hr.2.2.1 _ w2
    exact w2 (by rw [hr.1.2.2 _ _ e]; exact gx)), 0, rfl, fun j hj => by omega⟩)
  exact ⟨hs', σ, s1, s2⟩
end
