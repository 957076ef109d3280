/-! THE PURE PART, drawings: drawn edge sets; without an edge they stay drawn. -/
section
def gngB (nb : Nat → Nat) (x : Nat) : Prop := x < 49 ∧ (nb (x / 7)).testBit (x % 7) = true
/-- a round for each node -/
def rotE (nb ρ : Nat → Nat) : Prop := prmN ρ 49 ∧ (∀ x, ρ x / 7 = x / 7) ∧ (∀ x, ¬ gngB nb x → ρ x = x) ∧ ∀ x y, gngB nb x → gngB nb y → x / 7 = y / 7 → orbN ρ x y
def drnE (nb : Nat → Nat) : Prop := symB nb ∧ ∃ ρ, rotE nb ρ ∧ gnZ (alE nb) ρ 49 = 0
/-- the others stay in one round -/
theorem skp_orb {ρ : Nat → Nat} {N d : Nat} (h : prmN ρ N) {x : Nat} (hx : x ≠ d) : ∀ k, itA ρ k x ≠ d → ∃ j, itA (skpN ρ d) j x = itA ρ k x := by
  intro k
  induction k using Nat.strongRecOn with
  | ind k ih =>
    intro hk
    cases k with
    | zero => exact ⟨0, rfl⟩
    | succ k =>
      by_cases e : itA ρ k x = d
      · cases k with
        | zero => exact absurd e hx
        | succ k =>
          by_cases e2 : itA ρ k x = d
          · exfalso
            have : itA ρ (k + 1) x = ρ d := by rw [itA, e2]
            rw [e] at this
            have k1 : itA ρ (k + 1 + 1) x = d := by
              show ρ (itA ρ (k + 1) x) = d
              rw [e, ← this]
            exact hk k1
          · obtain ⟨j, hj⟩ := ih k (by omega) e2
            refine ⟨j + 1, ?_⟩
            show skpN ρ d (itA (skpN ρ d) j x) = ρ (itA ρ (k + 1) x)
            rw [hj]
            unfold skpN
            rw [if_neg e2, if_pos (show ρ (itA ρ k x) = d from e), e]
      · obtain ⟨j, hj⟩ := ih k (by omega) e
        refine ⟨j + 1, ?_⟩
        show skpN ρ d (itA (skpN ρ d) j x) = ρ (itA ρ k x)
        rw [hj]
        unfold skpN
        rw [if_neg e, if_neg (show ¬ ρ (itA ρ k x) = d from hk)]
theorem skp_rot {nb nb' ρ : Nat → Nat} {d : Nat} (h : rotE nb ρ) (hd : d < 49) (hn : ∀ x, gngB nb' x ↔ gngB nb x ∧ x ≠ d) : rotE nb' (skpN ρ d) := by
  obtain ⟨h1, h2, h3, h4⟩ := h
  refine ⟨skp_prm h1 hd, fun x => ?_, fun x hx => ?_, fun x y gx gy e => ?_⟩
  · unfold skpN
    by_cases z : x = d
    · rw [if_pos z, z]
    · rw [if_neg z]
      by_cases w : ρ x = d
      · rw [if_pos w, h2, ← w, h2]
      · rw [if_neg w, h2]
  · unfold skpN
    by_cases z : x = d
    · rw [if_pos z, z]
    · have fx := h3 x (fun g => hx ((hn x).mpr ⟨g, z⟩))
      rw [if_neg z, fx, if_neg z]
  · obtain ⟨g1, n1⟩ := (hn x).mp gx
    obtain ⟨g2, n2⟩ := (hn y).mp gy
    obtain ⟨k, hk⟩ := h4 x y g1 g2 e
    obtain ⟨j, hj⟩ := skp_orb h1 n1 k (by rw [hk]; exact n2)
    exact ⟨j, by rw [hj, hk]⟩
/-- without the edge of a and b -/
def rmvE (nb : Nat → Nat) (a b u : Nat) : Nat := if u = a then nsd (nb u) (2 ^ b) else if u = b then nsd (nb u) (2 ^ a) else nb u
theorem rmvE_t {nb : Nat → Nat} {a b u v : Nat} (ne : a ≠ b) : (rmvE nb a b u).testBit v = true ↔ (nb u).testBit v = true ∧ ¬ (u = a ∧ v = b) ∧ ¬ (u = b ∧ v = a) := by
  unfold rmvE
  by_cases u1 : u = a
  · rw [if_pos u1, nsd_bit, Nat.testBit_two_pow, Bool.and_eq_true, Bool.not_eq_true', decide_eq_false_iff_not]
    exact ⟨fun w => ⟨w.1, fun y => w.2 y.2.symm, fun y => ne (by rw [← u1, y.1])⟩, fun w => ⟨w.1, fun y => w.2.1 ⟨u1, y.symm⟩⟩⟩
  · rw [if_neg u1]
    by_cases u2 : u = b
    · rw [if_pos u2, nsd_bit, Nat.testBit_two_pow, Bool.and_eq_true, Bool.not_eq_true', decide_eq_false_iff_not]
      exact ⟨fun w => ⟨w.1, fun y => u1 y.1, fun y => w.2 y.2.symm⟩, fun w => ⟨w.1, fun y => w.2.2 ⟨u2, y.symm⟩⟩⟩
    · rw [if_neg u2]
      exact ⟨fun w => ⟨w, fun y => u1 y.1, fun y => u2 y.1⟩, fun w => w.1⟩
theorem drn_her {nb : Nat → Nat} {a b : Nat} (ha : a < 7) (hb : b < 7) (ne : a ≠ b) (hE : (nb a).testBit b = true) (h : drnE nb) : drnE (rmvE nb a b) := by
  obtain ⟨hs, ρ, hr, h0⟩ := h
  have hs' : symB (rmvE nb a b) := fun u v hu hv => by
    have t1 := rmvE_t (nb := nb) (u := u) (v := v) ne
    have t2 := rmvE_t (nb := nb) (u := v) (v := u) ne
    have s := hs u v hu hv
    rw [← s] at t2
    have : (rmvE nb a b u).testBit v = true ↔ (rmvE nb a b v).testBit u = true := by
      rw [t1, t2]
      exact ⟨fun w => ⟨w.1, fun y => w.2.2 ⟨y.2, y.1⟩, fun y => w.2.1 ⟨y.2, y.1⟩⟩, fun w => ⟨w.1, fun y => w.2.2 ⟨y.2, y.1⟩, fun y => w.2.1 ⟨y.2, y.1⟩⟩⟩
    exact Bool.eq_iff_iff.mpr this
  have ea : alE nb (7 * a + b) = 7 * b + a := alE_y ha hb hE
  have g' : ∀ x, gngB (rmvE nb a b) x ↔ (gngB nb x ∧ x ≠ 7 * a + b) ∧ x ≠ 7 * b + a := fun x => by
    unfold gngB
    rw [rmvE_t ne]
    constructor
    · rintro ⟨w1, w2, w3, w4⟩
      exact ⟨⟨⟨w1, w2⟩, fun y => w3 (by omega)⟩, fun y => w4 (by omega)⟩
    · rintro ⟨⟨⟨w1, w2⟩, w3⟩, w4⟩
      exact ⟨w1, w2, fun y => w3 (by omega), fun y => w4 (by omega)⟩
  have eα : alE (rmvE nb a b) = swpN (alE nb) (7 * a + b) (alE nb (7 * a + b)) := by
    funext x
    rw [ea]
    by_cases x1 : x = 7 * a + b
    · rw [x1, swp_a, ← ea, alE_two hs]
      exact alE_n (fun w => ((g' _).mp w).1.2 rfl)
    · by_cases x2 : x = 7 * b + a
      · rw [x2, swp_b, ea]
        exact alE_n (fun w => ((g' _).mp w).2 rfl)
      · rw [swp_n x1 x2]
        by_cases g : gngB nb x
        · rw [show alE (rmvE nb a b) x = 7 * (x % 7) + x / 7 from if_pos ((g' x).mpr ⟨⟨g, x1⟩, x2⟩), show alE nb x = 7 * (x % 7) + x / 7 from if_pos g]
        · rw [alE_n g, alE_n (fun w => g ((g' x).mp w).1.1)]
  have her := gn_her (alE_inv hs) hr.1 (show 7 * a + b < 49 by omega) (by rw [ea]; omega) h0
  rw [← eα] at her
  refine ⟨hs', _, ?_, her⟩
  rw [ea]
  -- both goings leave their rounds
  obtain ⟨h1, h2, h3, h4⟩ := hr
  have r1 : prmN (skpN ρ (7 * a + b)) 49 := skp_prm h1 (by omega)
  have mid : rotE (fun u => if u = a then nsd (nb u) (2 ^ b) else nb u) (skpN ρ (7 * a + b)) := by
    refine skp_rot ⟨h1, h2, h3, h4⟩ (by omega) (fun x => ?_)
    unfold gngB
    dsimp only
    by_cases u1 : x / 7 = a
    · rw [if_pos u1, nsd_bit, Nat.testBit_two_pow, Bool.and_eq_true, Bool.not_eq_true', decide_eq_false_iff_not]
      exact ⟨fun w => ⟨⟨w.1, w.2.1⟩, fun y => w.2.2 (by omega)⟩, fun w => ⟨w.1.1, w.1.2, fun y => w.2 (by omega)⟩⟩
    · rw [if_neg u1]
      exact ⟨fun w => ⟨w, fun y => u1 (by omega)⟩, fun w => w.1⟩
  refine skp_rot mid (by omega) (fun x => ?_)
  rw [g']
  unfold gngB
  dsimp only
  by_cases u1 : x / 7 = a
  · rw [if_pos u1, nsd_bit, Nat.testBit_two_pow, Bool.and_eq_true, Bool.not_eq_true', decide_eq_false_iff_not]
    exact ⟨fun w => ⟨⟨w.1.1.1, w.1.1.2, fun y => w.1.2 (by omega)⟩, w.2⟩, fun w => ⟨⟨⟨w.1.1, w.1.2.1⟩, fun y => w.1.2.2 (by omega)⟩, w.2⟩⟩
  · rw [if_neg u1]
    exact ⟨fun w => ⟨w.1.1, w.2⟩, fun w => ⟨⟨w.1, fun y => u1 (by omega)⟩, w.2⟩⟩
end
