/-! THE PURE PART, drawings: what the judge of cores takes is not drawn. -/
section
theorem lowB_t {S : Nat} (h : ∃ v, v < 7 ∧ S.testBit v = true) : lwbP S < 7 ∧ S.testBit (lwbP S) = true := by
  obtain ⟨v, h1, h2⟩ := h
  unfold lwbP
  cases e0 : S.testBit 0 with
  | true => exact ⟨by rw [if_pos rfl]; decide, by rw [if_pos rfl]; exact e0⟩
  | false =>
    rw [if_neg (by decide)]
    cases e1 : S.testBit 1 with
    | true => exact ⟨by rw [if_pos rfl]; decide, by rw [if_pos rfl]; exact e1⟩
    | false =>
      rw [if_neg (by decide)]
      cases e2 : S.testBit 2 with
      | true => exact ⟨by rw [if_pos rfl]; decide, by rw [if_pos rfl]; exact e2⟩
      | false =>
        rw [if_neg (by decide)]
        cases e3 : S.testBit 3 with
        | true => exact ⟨by rw [if_pos rfl]; decide, by rw [if_pos rfl]; exact e3⟩
        | false =>
          rw [if_neg (by decide)]
          cases e4 : S.testBit 4 with
          | true => exact ⟨by rw [if_pos rfl]; decide, by rw [if_pos rfl]; exact e4⟩
          | false =>
            rw [if_neg (by decide)]
            cases e5 : S.testBit 5 with
            | true => exact ⟨by rw [if_pos rfl]; decide, by rw [if_pos rfl]; exact e5⟩
            | false =>
              rw [if_neg (by decide)]
              refine ⟨by decide, ?_⟩
              have : v = 6 := by
                rcases (show v = 0 ∨ v = 1 ∨ v = 2 ∨ v = 3 ∨ v = 4 ∨ v = 5 ∨ v = 6 by omega) with e | e | e | e | e | e | e
                · rw [e, e0] at h2; exact absurd h2 (by decide)
                · rw [e, e1] at h2; exact absurd h2 (by decide)
                · rw [e, e2] at h2; exact absurd h2 (by decide)
                · rw [e, e3] at h2; exact absurd h2 (by decide)
                · rw [e, e4] at h2; exact absurd h2 (by decide)
                · rw [e, e5] at h2; exact absurd h2 (by decide)
                · exact e
              rw [← this]
              exact h2
theorem cnt_blk {Y : Nat → Bool} {k : Nat} (hk : 0 < k) : ∀ n, cnt (fun c => Y (c / k)) (n * k) = k * cnt Y n
  | 0 => by rw [Nat.zero_mul]; rfl
  | n + 1 => by
    have ih := cnt_blk (Y := Y) hk n
    rw [Nat.succ_mul, cnt_ad2, ih]
    have e : ∀ i, i < k → (n * k + i) / k = n := fun i hi => by
      rw [Nat.mul_comm, Nat.mul_add_div hk, Nat.div_eq_of_lt hi, Nat.add_zero]
    show k * cnt Y n + _ = k * (cnt Y n + (if Y n = true then 1 else 0))
    cases y : Y n with
    | true =>
      rw [cnt_eq (Y := fun _ => true) k (fun i hi => by rw [e i hi, y]), cnt_T, if_pos rfl, Nat.mul_succ]
    | false =>
      rw [cnt_0 k (fun i hi => by rw [e i hi, y]), if_neg (by decide)]
      rfl
/-- the goings that begin at a node with more than two edges -/
def brgB (nb : Nat → Nat) (x : Nat) : Bool := gngb nb x && decide (2 < degN nb (x / 7))
theorem bg_cnt {nb : Nat → Nat} {d : Nat} (hd : ∀ u, u < 7 → degN nb u ≤ 2 ∨ degN nb u = d) : ∀ k, k ≤ 7 → cnt (brgB nb) (7 * k) ≤ d * cnt (fun u => Nat.blt 2 (degN nb u)) k
  | 0, _ => Nat.zero_le _
  | k + 1, h => by
    have ih := bg_cnt hd k (by omega)
    have sd := sdN_e (nb := nb) (k + 1) h
    have sk := sdN_e (nb := nb) k (by omega)
    rw [Nat.mul_succ, cnt_ad2] at sd
    rw [Nat.mul_succ, cnt_ad2]
    show _ ≤ d * (cnt (fun u => Nat.blt 2 (degN nb u)) k + (if Nat.blt 2 (degN nb k) = true then 1 else 0))
    have en : sdN nb (k + 1) = sdN nb k + degN nb k := rfl
    by_cases c : 2 < degN nb k
    · rw [if_pos (show Nat.blt 2 (degN nb k) = true from Nat.ble_eq_true_of_le c), Nat.mul_succ]
      have le := cnt_le (X := fun i => brgB nb (7 * k + i)) (Y := fun i => gngb nb (7 * k + i)) 7 (fun i _ hi => by
        have hi : brgB nb (7 * k + i) = true := hi
        unfold brgB at hi
        rw [Bool.and_eq_true] at hi
        exact hi.1)
      have := (hd k (by omega)).resolve_left (by omega)
      omega
    · rw [if_neg (show ¬ Nat.blt 2 (degN nb k) = true from fun w => c (Nat.le_of_ble_eq_true w)), Nat.add_zero, cnt_0 7 (fun i hi => by
        show brgB nb (7 * k + i) = false
        unfold brgB
        rw [show (7 * k + i) / 7 = k by omega, decide_eq_false c, Bool.and_false])]
      exact ih
theorem sd_low {nb : Nat → Nat} {d : Nat} (hd : ∀ u, u < 7 → degN nb u ≤ 2 ∨ degN nb u = d) : ∀ k, k ≤ 7 → d * cnt (fun u => Nat.blt 2 (degN nb u)) k + 2 * cnt (fun u => Nat.beq (degN nb u) 2) k ≤ sdN nb k
  | 0, _ => Nat.le_refl _
  | k + 1, h => by
    have ih := sd_low hd k (by omega)
    show d * (cnt (fun u => Nat.blt 2 (degN nb u)) k + (if Nat.blt 2 (degN nb k) = true then 1 else 0)) + 2 * (cnt (fun u => Nat.beq (degN nb u) 2) k + (if Nat.beq (degN nb k) 2 = true then 1 else 0)) ≤ sdN nb k + degN nb k
    by_cases c : 2 < degN nb k
    · have := (hd k (by omega)).resolve_left (by omega)
      rw [if_pos (show Nat.blt 2 (degN nb k) = true from Nat.ble_eq_true_of_le c), if_neg (show ¬ Nat.beq (degN nb k) 2 = true from fun w => by have := Nat.eq_of_beq_eq_true w; omega), Nat.mul_succ]
      omega
    · rw [if_neg (show ¬ Nat.blt 2 (degN nb k) = true from fun w => c (Nat.le_of_ble_eq_true w)), Nat.add_zero]
      by_cases c2 : degN nb k = 2
      · rw [if_pos (show Nat.beq (degN nb k) 2 = true by rw [c2]; rfl)]
        omega
      · rw [if_neg (show ¬ Nat.beq (degN nb k) 2 = true from fun w => c2 (Nat.eq_of_beq_eq_true w))]
        omega
theorem wnF_ok {nb : Nat → Nat} {u : Nat} (hu : 2 < degN nb u) : ∀ k m g, wnF nb u k = some (m, g) → (∀ v, v < k → (nb u).testBit v = true → (fwN nb 21 u v 1).1 ≠ u ∧ m.testBit (fwN nb 21 u v 1).1 = true) ∧ (∀ v w, v < k → w < k → (nb u).testBit v = true → (nb u).testBit w = true → (fwN nb 21 u v 1).1 = (fwN nb 21 u w 1).1 → v = w) ∧ ∀ i, m.testBit i = true → ∃ v, v < k ∧ (nb u).testBit v = true ∧ (fwN nb 21 u v 1).1 = i
  | 0, m, g, h => by
    rw [wnF] at h
    have := Option.some.inj h
    rw [← (Prod.mk.inj this).1]
    refine ⟨fun v hv => by omega, fun v w hv => by omega, fun i hi => ?_⟩
    rw [Nat.zero_testBit] at hi
    exact absurd hi (by decide)
  | k + 1, m, g, h => by
    rw [wnF] at h
    cases e : wnF nb u k with
    | none => rw [e] at h; cases h
    | some p =>
      obtain ⟨m0, g0⟩ := p
      rw [e] at h
      dsimp only at h
      obtain ⟨i1, i2, i3⟩ := wnF_ok hu k m0 g0 e
      by_cases c : (nb u).testBit k = true
      · rw [if_pos ⟨hu, c⟩] at h
        by_cases c2 : (fwN nb 21 u k 1).1 = u ∨ m0.testBit (fwN nb 21 u k 1).1 = true
        · rw [if_pos c2] at h
          cases h
        · rw [if_neg c2] at h
          have em := (Prod.mk.inj (Option.some.inj h)).1
          have nk : (fwN nb 21 u k 1).1 ≠ u := fun w => c2 (Or.inl w)
          have nm : m0.testBit (fwN nb 21 u k 1).1 ≠ true := fun w => c2 (Or.inr w)
          have mb : ∀ i, m.testBit i = true ↔ m0.testBit i = true ∨ (fwN nb 21 u k 1).1 = i := fun i => by
            rw [← em, Nat.testBit_or, Bool.or_eq_true, nb_pow, decide_eq_true_iff]
          refine ⟨fun v hv hb => ?_, fun v w hv hw bv bw ee => ?_, fun i hi => ?_⟩
          · by_cases vk : v = k
            · rw [vk]
              exact ⟨nk, (mb _).mpr (Or.inr rfl)⟩
            · obtain ⟨a, b⟩ := i1 v (by omega) hb
              exact ⟨a, (mb _).mpr (Or.inl b)⟩
          · by_cases vk : v = k
            · by_cases wk : w = k
              · omega
              · exfalso
                rw [vk] at ee
                rw [ee] at nm
                exact nm (i1 w (by omega) bw).2
            · by_cases wk : w = k
              · exfalso
                rw [wk] at ee
                rw [← ee] at nm
                exact nm (i1 v (by omega) bv).2
              · exact i2 v w (by omega) (by omega) bv bw ee
          · rcases (mb i).mp hi with z | z
            · obtain ⟨v, a, b, c⟩ := i3 i z
              exact ⟨v, by omega, b, c⟩
            · exact ⟨k, by omega, c, z⟩
      · rw [if_neg (fun w => c w.2)] at h
        have em := (Prod.mk.inj (Option.some.inj h)).1
        rw [← em]
        refine ⟨fun v hv hb => ?_, fun v w hv hw bv bw ee => ?_, fun i hi => ?_⟩
        · by_cases vk : v = k
          · rw [vk] at hb
            exact absurd hb c
          · exact i1 v (by omega) hb
        · by_cases vk : v = k
          · rw [vk] at bv
            exact absurd bv c
          · by_cases wk : w = k
            · rw [wk] at bw
              exact absurd bw c
            · exact i2 v w (by omega) (by omega) bv bw ee
        · obtain ⟨v, a, b, c⟩ := i3 i hi
          exact ⟨v, by omega, b, c⟩
theorem ws_ok {nb : Nat → Nat} : ∀ k g, wsF nb k = some g → ∀ u, u < k → ∃ m g', wnF nb u 7 = some (m, g')
  | 0, _, _ => fun u hu => absurd hu (Nat.not_lt_zero u)
  | k + 1, g, h => by
    rw [wsF] at h
    cases e : wsF nb k with
    | none => rw [e] at h; cases h
    | some g0 =>
      rw [e] at h
      dsimp only at h
      cases e2 : wnF nb k 7 with
      | none => rw [e2] at h; cases h
      | some p =>
        intro u hu
        by_cases c : u = k
        · rw [c]
          exact ⟨p.1, p.2, e2⟩
        · exact ws_ok k g0 e u (by omega)
theorem rt_ok {nb : Nat → Nat} : ∀ k u, u < k → wyN nb u ≠ 0 → (rtP nb k).1.testBit u = true
  | 0, u, h, _ => absurd h (Nat.not_lt_zero u)
  | k + 1, u, h, hw => by
    rw [rtP]
    by_cases c : wyN nb k = 0
    · rw [if_pos c]
      have : u ≠ k := fun e => hw (by rw [e]; exact c)
      exact rt_ok k u (by omega) hw
    · rw [if_neg c]
      show ((rtP nb k).1 ||| 2 ^ k).testBit u = true
      rw [Nat.testBit_or, Bool.or_eq_true, nb_pow, decide_eq_true_iff]
      by_cases e : k = u
      · exact Or.inr e
      · exact Or.inl (rt_ok k u (by omega) hw)
/-- what is wanted of an edge set -/
def coreP (nb : Nat → Nat) (e : Nat → Nat → Nat) (d : Nat) : Prop := (∀ u, u < 7 → degN nb u = 0 ∨ degN nb u = 2 ∨ (degN nb u = d ∧ 2 < d)) ∧ (∀ u w, u < 7 → w < 7 → degN nb u = 2 → degN nb w = 2 → u = w) ∧ (∀ u v, u < 7 → v < 7 → 2 < degN nb u → (nb u).testBit v = true → degN nb v ≠ 2 → e u v = v) ∧ (∀ u v w, u < 7 → v < 7 → w < 7 → 2 < degN nb u → (nb u).testBit v = true → degN nb v = 2 → (nb v).testBit w = true → w ≠ u → e u v = w) ∧ (∀ u v, u < 7 → v < 7 → 2 < degN nb u → (nb u).testBit v = true → e u v ≠ u) ∧ ∀ u v w, u < 7 → v < 7 → w < 7 → 2 < degN nb u → (nb u).testBit v = true → (nb u).testBit w = true → e u v = e u w → v = w
theorem deg2_other {nb : Nat → Nat} {v u : Nat} (hv : degN nb v = 2) (hu : u < 7) (hb : (nb v).testBit u = true) : ∃ w, w < 7 ∧ w ≠ u ∧ (nb v).testBit w = true ∧ ∀ z, z < 7 → z ≠ u → (nb v).testBit z = true → z = w := by
  have d1 : degN nb v = cnt (cdel (fun i => (nb v).testBit i) u) 7 + 1 := cnt_del (X := fun i => (nb v).testBit i) hb 7 hu
  obtain ⟨w, w1, w2⟩ := cnt_ex (X := cdel (fun i => (nb v).testBit i) u) 7 (by omega)
  have d2 := cnt_del (X := cdel (fun i => (nb v).testBit i) u) w2 7 w1
  obtain ⟨w3, w4⟩ := cdel_eq.mp w2
  refine ⟨w, w1, w4, w3, fun z hz zu bz => ?_⟩
  apply Classical.byContradiction
  intro c
  have := cnt_pos (X := cdel (cdel (fun i => (nb v).testBit i) u) w) (i := z) (n := 7) (cdel_eq.mpr ⟨cdel_eq.mpr ⟨bz, zu⟩, c⟩) hz
  omega
theorem rot_move {nb ρ : Nat → Nat} {v u : Nat} (hr : rotE nb ρ) (hv : v < 7) (hu : u < 7) (hb : (nb v).testBit u = true) (hd : 2 ≤ degN nb v) : ∃ w, w < 7 ∧ w ≠ u ∧ (nb v).testBit w = true ∧ ρ (7 * v + u) = 7 * v + w := by
  obtain ⟨p1, p2, p3, p4⟩ := rot_per hr hv hu hb
  obtain ⟨g1, g2⟩ := p3 1
  have g1 : gngB nb (ρ (7 * v + u)) := g1
  have g2 : ρ (7 * v + u) / 7 = v := g2
  have b := g1.2
  rw [g2] at b
  refine ⟨ρ (7 * v + u) % 7, by omega, fun e => ?_, b, by omega⟩
  have : itA ρ 1 (7 * v + u) = itA ρ 0 (7 * v + u) := by
    show ρ (7 * v + u) = 7 * v + u
    omega
  have := p2 1 0 (by omega) (by omega) this
  omega
/-- from a going of a branch to the next one -/
theorem core_step {nb ρ : Nat → Nat} {e : Nat → Nat → Nat} {d u v : Nat} (hs : symB nb) (hl : ∀ u, u < 7 → (nb u).testBit u = false) (hr : rotE nb ρ) (hc : coreP nb e d) (hu : u < 7) (hv : v < 7) (hd : 2 < degN nb u) (hb : (nb u).testBit v = true) : e u v < 7 ∧ 2 < degN nb (e u v) ∧ ∃ z, z < 7 ∧ (nb (e u v)).testBit z = true ∧ orbN (fun x => ρ (alE nb x)) (7 * u + v) (7 * e u v + z) ∧ e (e u v) z ≠ u := by
  obtain ⟨c1, c2, c3, c4, c5, c6⟩ := hc
  have bv : (nb v).testBit u = true := by rw [← hs u v hu hv]; exact hb
  have dv : 0 < degN nb v := cnt_pos (X := fun i => (nb v).testBit i) bv hu
  have s1 : (fun x => ρ (alE nb x)) (7 * u + v) = ρ (7 * v + u) := by
    dsimp only
    rw [alE_y hu hv hb]
  by_cases h2 : degN nb v = 2
  · obtain ⟨w, w1, w2, w3, w4⟩ := rot_move hr hv hu bv (by omega)
    have ew := c4 u v w hu hv w1 hd hb h2 w3 w2
    have bw : (nb w).testBit v = true := by rw [← hs v w hv w1]; exact w3
    have dw : 0 < degN nb w := cnt_pos (X := fun i => (nb w).testBit i) bw hv
    have nvw : v ≠ w := fun c => by
      rw [← c, hl v hv] at w3
      exact absurd w3 (by decide)
    have dw2 : 2 < degN nb w := by
      rcases c1 w w1 with z | z | z
      · omega
      · exact absurd (c2 v w hv w1 h2 z) nvw
      · omega
    obtain ⟨z, z1, z2, z3, z4⟩ := rot_move hr w1 hv bw (by omega)
    rw [ew]
    refine ⟨w1, dw2, z, z1, z3, ⟨2, ?_⟩, fun c => ?_⟩
    · show ρ (alE nb (ρ (alE nb (7 * u + v)))) = _
      rw [alE_y hu hv hb, w4, alE_y hv w1 w3, z4]
    · have a := c4 w v u w1 hv hu dw2 bw h2 bv (fun c => w2 c.symm)
      rw [← a] at c
      exact z2 (c6 w z v w1 z1 hv dw2 z3 bw c)
  · have dv2 : 2 < degN nb v := by
      rcases c1 v hv with z | z | z
      · omega
      · exact absurd z h2
      · omega
    have ev := c3 u v hu hv hd hb h2
    obtain ⟨z, z1, z2, z3, z4⟩ := rot_move hr hv hu bv (by omega)
    rw [ev]
    refine ⟨hv, dv2, z, z1, z3, ⟨1, ?_⟩, fun c => ?_⟩
    · show ρ (alE nb (7 * u + v)) = _
      rw [alE_y hu hv hb, z4]
    · have a := c3 v u hv hu dv2 bv (by omega)
      rw [← a] at c
      exact z2 (c6 v z u hv z1 hu dv2 z3 bv c)
end
