/-! THE PURE PART, drawings: the judge of cores and drawings exclude each other. -/
section
theorem blt_t {a b : Nat} : Nat.blt a b = true ↔ a < b := ⟨fun h => Nat.le_of_ble_eq_true h, fun h => Nat.ble_eq_true_of_le h⟩
theorem jc_core {nb : Nat → Nat} {kd : Nat} (hs : symB nb) (hl : ∀ u, u < 7 → (nb u).testBit u = false) (h22 : sdN nb 7 ≤ 22) (h : jcB nb kd = true) : coreP nb (fun u v => (fwN nb 21 u v 1).1) (if kd = 5 then 4 else 3) ∧ cbP nb 2 = (if kd = 5 then 5 else 6) ∧ (∀ u, u < 7 → ∃ m g, wnF nb u 7 = some (m, g)) ∧ (kd = 5 ∨ hvB nb (rtP nb 7).1 (rtP nb 7).2 = true) := by
  unfold jcB brB at h
  simp only [Bool.and_eq_true] at h
  obtain ⟨⟨h1, h2, h3⟩, h4⟩ := h
  have h1 := Nat.eq_of_beq_eq_true h1
  have h3 := Nat.eq_of_beq_eq_true h3
  have h2 : ∀ u, u < 7 → degN nb u ≤ 2 ∨ degN nb u = (if kd = 5 then 4 else 3) := fun u hu => by
    have := allN_t h2 u hu
    rw [Bool.or_eq_true] at this
    exact this.elim (fun z => Or.inl (Nat.le_of_ble_eq_true z)) (fun z => Or.inr (Nat.eq_of_beq_eq_true z))
  cases ew : wsF nb 7 with
  | none => rw [ew] at h4; cases h4
  | some g =>
    rw [ew] at h4
    dsimp only at h4
    rw [Bool.and_eq_true, Bool.or_eq_true] at h4
    obtain ⟨_, h5⟩ := h4
    have hw := ws_ok 7 g ew
    have d3 : 2 < (if kd = 5 then 4 else 3) := by split <;> omega
    obtain ⟨d, hd⟩ : ∃ d, d = (if kd = 5 then 4 else 3) := ⟨_, rfl⟩
    have n1 : ∀ u, u < 7 → degN nb u ≠ 1 := fun u hu e => by
      have := cnt_lt (X := fun u => Nat.blt 1 (degN nb u)) (Y := fun u => Nat.blt 0 (degN nb u)) (n := 7) (i := u) (fun j _ hj => blt_t.mpr (by have := blt_t.mp hj; omega)) hu (by rw [e]; rfl) (by rw [e]; rfl)
      have e0 : cbP nb 0 = cnt (fun u => Nat.blt 0 (degN nb u)) 7 := rfl
      have e1 : cbP nb 1 = cnt (fun u => Nat.blt 1 (degN nb u)) 7 := rfl
      omega
    have c1 : ∀ u, u < 7 → degN nb u = 0 ∨ degN nb u = 2 ∨ (degN nb u = (if kd = 5 then 4 else 3) ∧ 2 < (if kd = 5 then 4 else 3)) := fun u hu => by
      have := n1 u hu
      rcases h2 u hu with z | z
      · omega
      · exact Or.inr (Or.inr ⟨z, d3⟩)
    have c2 : ∀ u w, u < 7 → w < 7 → degN nb u = 2 → degN nb w = 2 → u = w := fun u w hu hw du dw => by
      apply Classical.byContradiction
      intro ne
      have b1 := cnt_del (X := fun u => Nat.beq (degN nb u) 2) (i := u) (by rw [du]; rfl) 7 hu
      have b2 := cnt_del (X := cdel (fun u => Nat.beq (degN nb u) 2) u) (i := w) (cdel_eq.mpr ⟨by rw [dw]; rfl, fun c => ne c.symm⟩) 7 hw
      have low := sd_low h2 7 (Nat.le_refl _)
      have e2 : cbP nb 2 = cnt (fun u => Nat.blt 2 (degN nb u)) 7 := rfl
      have o := cnt_or (X := fun u => Nat.blt 2 (degN nb u)) (Y := fun u => Nat.beq (degN nb u) 2) 7
      have o1 := cnt_n (X := fun u => Nat.blt 2 (degN nb u) || Nat.beq (degN nb u) 2) 7
      have o2 : cnt (fun u => Nat.blt 2 (degN nb u) && Nat.beq (degN nb u) 2) 7 = 0 := cnt_0 7 (fun i _ => by
        cases c : Nat.beq (degN nb i) 2 with
        | false => rw [Bool.and_false]
        | true =>
          rw [Nat.eq_of_beq_eq_true c]
          rfl)
      rw [← e2, h3] at low
      rw [← e2, h3] at o
      by_cases k5 : kd = 5
      · rw [if_pos k5, if_pos k5] at low
        omega
      · rw [if_neg k5] at o
        omega
    have c3 : ∀ u v, u < 7 → v < 7 → 2 < degN nb u → (nb u).testBit v = true → degN nb v ≠ 2 → (fwN nb 21 u v 1).1 = v := fun u v _ _ _ _ d2 => by
      rw [show (21 : Nat) = 20 + 1 from rfl, fwN, if_neg d2]
    have c4 : ∀ u v w, u < 7 → v < 7 → w < 7 → 2 < degN nb u → (nb u).testBit v = true → degN nb v = 2 → (nb v).testBit w = true → w ≠ u → (fwN nb 21 u v 1).1 = w := fun u v w hu hv hw du buv d2 bvw wu => by
      have bvu : (nb v).testBit u = true := by rw [← hs u v hu hv]; exact buv
      obtain ⟨o, o1, o2, o3, o4⟩ := deg2_other d2 hu bvu
      have wo := o4 w hw wu bvw
      have lo := lowB_t (S := nsd (nb v) (2 ^ u)) ⟨w, hw, by rw [nsd_bit, bvw, nb_pow, decide_eq_false (fun c => wu c.symm)]; rfl⟩
      rw [nsd_bit, nb_pow, Bool.and_eq_true, Bool.not_eq_true', decide_eq_false_iff_not] at lo
      have lw : lwbP (nsd (nb v) (2 ^ u)) = w := by rw [o4 _ lo.1 (fun c => lo.2.2 c.symm) lo.2.1, wo]
      have dw : degN nb w ≠ 2 := fun c => by
        have := c2 v w hv hw d2 c
        rw [this, hl w hw] at bvw
        exact absurd bvw (by decide)
      rw [show (21 : Nat) = 20 + 1 from rfl, fwN, if_pos d2, lw, show (20 : Nat) = 19 + 1 from rfl, fwN, if_neg dw]
    refine ⟨⟨c1, c2, c3, c4, fun u v hu hv du b => ?_, fun u v w hu hv hw' du bv bw e => ?_⟩, h3, hw, h5.imp (fun z => Nat.eq_of_beq_eq_true z) id⟩
    · obtain ⟨m, g', e⟩ := hw u hu
      exact ((wnF_ok du 7 m g' e).1 v hv b).1
    · obtain ⟨m, g', e'⟩ := hw u hu
      exact (wnF_ok du 7 m g' e').2.1 v w hv hw' bv bw e
theorem jc_not {nb : Nat → Nat} {kd : Nat} (hs : symB nb) (hl : ∀ u, u < 7 → (nb u).testBit u = false) (h22 : sdN nb 7 ≤ 22) (h : jcB nb kd = true) : ¬ drnE nb := by
  rintro ⟨_, ρ, hr, h0⟩
  obtain ⟨hc, hb, hw, hh⟩ := jc_core hs hl h22 h
  obtain ⟨e, he⟩ : ∃ e : Nat → Nat → Nat, e = fun u v => (fwN nb 21 u v 1).1 := ⟨_, rfl⟩
  rw [← he] at hc
  obtain ⟨φ, hφ⟩ : ∃ φ : Nat → Nat, φ = fun x => ρ (alE nb x) := ⟨_, rfl⟩
  have hp : prmN φ 49 := by rw [hφ]; exact cmp_prm (alE_inv hs).1 hr.1
  have oe := orb_eqv hp
  have bg : ∀ x, brgB nb x = true ↔ gngB nb x ∧ 2 < degN nb (x / 7) := fun x => by
    unfold brgB
    rw [Bool.and_eq_true, decide_eq_true_iff, gngb_t]
  -- from branch to branch
  have step : ∀ x, brgB nb x = true → e (x / 7) (x % 7) ≠ x / 7 ∧ 2 < degN nb (e (x / 7) (x % 7)) ∧ ∃ y, brgB nb y = true ∧ orbN φ x y ∧ y / 7 = e (x / 7) (x % 7) ∧ e (y / 7) (y % 7) ≠ x / 7 := fun x hx => by
    obtain ⟨g, d2⟩ := (bg x).mp hx
    have x49 := g.1
    obtain ⟨s1, s2, z, s3, s4, s5, s6⟩ := core_step hs hl hr hc (show x / 7 < 7 by omega) (show x % 7 < 7 by omega) d2 g.2
    rw [← hφ, show 7 * (x / 7) + x % 7 = x by omega] at s5
    obtain ⟨w, hw⟩ : ∃ w, w = e (x / 7) (x % 7) := ⟨_, rfl⟩
    rw [← hw] at s1 s2 s4 s5 s6
    rw [← hw]
    have d : (7 * w + z) / 7 = w := by omega
    have m : (7 * w + z) % 7 = z := by omega
    refine ⟨by rw [hw]; exact hc.2.2.2.2.1 _ _ (by omega) (by omega) d2 g.2, s2, 7 * w + z, (bg _).mpr ⟨⟨by omega, by rw [d, m]; exact s4⟩, by rw [d]; exact s2⟩, s5, d, by rw [d, m]; exact s6⟩
  -- each walk has a branch
  have reach : ∀ x, gngB nb x → ∃ y, brgB nb y = true ∧ orbN φ x y := fun x g => by
    have x49 := g.1
    have dx : 0 < degN nb (x / 7) := cnt_pos (X := fun i => (nb (x / 7)).testBit i) g.2 (show x % 7 < 7 by omega)
    rcases hc.1 (x / 7) (by omega) with z | z | z
    · omega
    · obtain ⟨a1, a2⟩ := alE_g hs g
      have b : (nb (x % 7)).testBit (x / 7) = true := by rw [← hs _ _ (show x / 7 < 7 by omega) (show x % 7 < 7 by omega)]; exact g.2
      have dy : 0 < degN nb (x % 7) := cnt_pos (X := fun i => (nb (x % 7)).testBit i) b (show x / 7 < 7 by omega)
      have r2 := hr.2.1 (alE nb x)
      have r1 := rot_g hr a2
      have ed : ρ (alE nb x) / 7 = x % 7 := by rw [r2, a1]; omega
      refine ⟨ρ (alE nb x), (bg _).mpr ⟨r1, ?_⟩, ⟨1, by rw [hφ]; rfl⟩⟩
      rw [ed]
      rcases hc.1 (x % 7) (by omega) with y | y | y
      · omega
      · have := hc.2.1 _ _ (by omega) (by omega) z y
        rw [this, hl _ (by omega)] at b
        exact absurd b (by decide)
      · omega
    · exact ⟨x, (bg x).mpr ⟨g, by omega⟩, oe.1 x⟩
  -- the numbers
  have h2 : ∀ u, u < 7 → degN nb u ≤ 2 ∨ degN nb u = (if kd = 5 then 4 else 3) := fun u hu => by
    rcases hc.1 u hu with z | z | z
    · exact Or.inl (by omega)
    · exact Or.inl (by omega)
    · exact Or.inr z.1
  have num := gnZ_num hs hl hr
  have low := sd_low h2 7 (Nat.le_refl _)
  have up := bg_cnt h2 7 (Nat.le_refl _)
  have e2 : cbP nb 2 = cnt (fun u => Nat.blt 2 (degN nb u)) 7 := rfl
  have nd : ndE nb ≤ cbP nb 2 + cnt (fun u => Nat.beq (degN nb u) 2) 7 := by
    have o := cnt_or (X := fun u => Nat.blt 2 (degN nb u)) (Y := fun u => Nat.beq (degN nb u) 2) 7
    have le := cnt_le (X := hasE nb) (Y := fun u => Nat.blt 2 (degN nb u) || Nat.beq (degN nb u) 2) 7 (fun u hu hx => by
      have hx : 0 < degN nb u := of_decide_eq_true hx
      rw [Bool.or_eq_true]
      rcases hc.1 u hu with z | z | z
      · omega
      · exact Or.inr (by rw [z]; rfl)
      · exact Or.inl (blt_t.mpr (by omega)))
    have : ndE nb = cnt (hasE nb) 7 := rfl
    omega
  have pt : 1 ≤ ptE nb := by
    have pos : 0 < cnt (fun u => Nat.blt 2 (degN nb u)) 7 := by
      rw [← e2, hb]
      split <;> omega
    obtain ⟨u, u1, u2⟩ := cnt_ex 7 pos
    have hu : hasE nb u = true := decide_eq_true (by have := blt_t.mp u2; omega)
    obtain ⟨r, r1, _, r3⟩ := fst_of (con_eqv (nb := nb)) u u (Nat.le_refl _) hu
    exact cnt_pos r3 (show r < 7 by omega)
  have side : kd = 5 ∨ ∃ r : Nat, ∀ x, brgB nb x = true → r.testBit (e (x / 7) (x % 7)) = !r.testBit (x / 7) := by
    rcases hh with k5 | hv
    · exact Or.inl k5
    · refine Or.inr ⟨(rtP nb 7).2, fun x hx => ?_⟩
      obtain ⟨g, d2⟩ := (bg x).mp hx
      have x49 := g.1
      obtain ⟨_, de, y, y1, _, y3, _⟩ := step x hx
      obtain ⟨m, g', em⟩ := hw (x / 7) (by omega)
      have mb := (wnF_ok d2 7 m g' em).1 (x % 7) (by omega) g.2
      have wy : wyN nb (x / 7) = m := by unfold wyN; rw [em]
      unfold hvB at hv
      rw [Bool.and_eq_true] at hv
      have hv := Nat.eq_of_beq_eq_true (allN_t hv.1 (x / 7) (by omega))
      rw [wy] at hv
      have ei : e (x / 7) (x % 7) = (fwN nb 21 (x / 7) (x % 7) 1).1 := by rw [he]
      rw [← ei] at mb
      have wz : wyN nb (e (x / 7) (x % 7)) ≠ 0 := fun c => by
        obtain ⟨gy, dy⟩ := (bg y).mp y1
        have y49 := gy.1
        obtain ⟨m2, g2, em2⟩ := hw (y / 7) (by omega)
        have mb2 := (wnF_ok dy 7 m2 g2 em2).1 (y % 7) (by omega) gy.2
        rw [← y3] at c
        have wy2 : wyN nb (y / 7) = m2 := by unfold wyN; rw [em2]
        rw [← wy2, c, Nat.zero_testBit] at mb2
        exact absurd mb2.2 (by decide)
      have e7 : e (x / 7) (x % 7) < 7 := by
        rw [← y3]
        have := ((bg y).mp y1).1.1
        omega
      have ra := rt_ok 7 _ e7 wz
      cases ru : (rtP nb 7).2.testBit (x / 7) with
      | true =>
        rw [if_pos ru] at hv
        cases ri : (rtP nb 7).2.testBit (e (x / 7) (x % 7)) with
        | false => rfl
        | true =>
          have : (m &&& (rtP nb 7).2).testBit (e (x / 7) (x % 7)) = true := by rw [Nat.testBit_and, mb.2, ri]; rfl
          rw [hv, Nat.zero_testBit] at this
          exact absurd this (by decide)
      | false =>
        rw [if_neg (by rw [ru]; decide)] at hv
        cases ri : (rtP nb 7).2.testBit (e (x / 7) (x % 7)) with
        | true => rfl
        | false =>
          have : (m &&& nsd (rtP nb 7).1 (rtP nb 7).2).testBit (e (x / 7) (x % 7)) = true := by rw [Nat.testBit_and, mb.2, nsd_bit, ra, ri]; rfl
          rw [hv, Nat.zero_testBit] at this
          exact absurd this (by decide)
  -- as many as K branches in each walk
  have many : ∀ r, ∃ b : Nat → Nat, fstG (gngb nb) (orbN φ) r = true → (∀ i, i < (if kd = 5 then 3 else 4) → brgB nb (b i) = true ∧ orbN φ r (b i)) ∧ ∀ i j, i < (if kd = 5 then 3 else 4) → j < (if kd = 5 then 3 else 4) → b i = b j → i = j := fun r => by
    by_cases hf : fstG (gngb nb) (orbN φ) r = true
    · obtain ⟨x0, f0, o0⟩ := reach r (gngb_t.mp (fstG_t.mp hf).1)
      obtain ⟨p0, _, x1, f1, o1, q1, t1⟩ := step x0 f0
      obtain ⟨p1, _, x2, f2, o2, q2, t2⟩ := step x1 f1
      obtain ⟨p2, _, x3, f3, o3, q3, t3⟩ := step x2 f2
      have r1 := oe.2.2 _ _ _ o0 o1
      have r2 := oe.2.2 _ _ _ r1 o2
      have r3 := oe.2.2 _ _ _ r2 o3
      have n01 : x0 / 7 ≠ x1 / 7 := fun c => p0 (by rw [← q1, c])
      have n12 : x1 / 7 ≠ x2 / 7 := fun c => p1 (by rw [← q2, c])
      have n02 : x0 / 7 ≠ x2 / 7 := fun c => t1 (by rw [← q2, c])
      refine ⟨fun i => if i = 0 then x0 else if i = 1 then x1 else if i = 2 then x2 else x3, fun _ => ⟨fun i hi => ?_, fun i j hi hj => ?_⟩⟩
      · have i4 : i < 4 := Nat.lt_of_lt_of_le hi (by split <;> omega)
        rcases (show i = 0 ∨ i = 1 ∨ i = 2 ∨ i = 3 by omega) with c | c | c | c
        · rw [c]; exact ⟨f0, o0⟩
        · rw [c]; exact ⟨f1, r1⟩
        · rw [c]; exact ⟨f2, r2⟩
        · rw [c]; exact ⟨f3, r3⟩
      · rcases side with k5 | ⟨R, hR⟩
        · rw [if_pos k5] at hi hj
          intro w
          rcases (show i = 0 ∨ i = 1 ∨ i = 2 by omega) with c | c | c <;> rcases (show j = 0 ∨ j = 1 ∨ j = 2 by omega) with c' | c' | c' <;> subst c <;> subst c'
          · rfl
          · exact absurd (congrArg (· / 7) (show x0 = x1 from w)) n01
          · exact absurd (congrArg (· / 7) (show x0 = x2 from w)) n02
          · exact absurd (congrArg (· / 7) (show x0 = x1 from w.symm)) n01
          · rfl
          · exact absurd (congrArg (· / 7) (show x1 = x2 from w)) n12
          · exact absurd (congrArg (· / 7) (show x0 = x2 from w.symm)) n02
          · exact absurd (congrArg (· / 7) (show x1 = x2 from w.symm)) n12
          · rfl
        · have i4 : i < 4 := Nat.lt_of_lt_of_le hi (by split <;> omega)
          have j4 : j < 4 := Nat.lt_of_lt_of_le hj (by split <;> omega)
          have n13 : x1 / 7 ≠ x3 / 7 := fun c => t2 (by rw [← q3, c])
          have n23 : x2 / 7 ≠ x3 / 7 := fun c => p2 (by rw [← q3, c])
          have n03 : x0 / 7 ≠ x3 / 7 := fun c => by
            have a0 := hR x0 f0
            have a1 := hR x1 f1
            have a2 := hR x2 f2
            rw [← q1] at a0
            rw [← q2, a0] at a1
            rw [← q3, a1, ← c] at a2
            cases z : R.testBit (x0 / 7) <;> rw [z] at a2 <;> exact absurd a2 (by decide)
          intro w
          rcases (show i = 0 ∨ i = 1 ∨ i = 2 ∨ i = 3 by omega) with c | c | c | c <;> rcases (show j = 0 ∨ j = 1 ∨ j = 2 ∨ j = 3 by omega) with c' | c' | c' | c' <;> subst c <;> subst c'
          · rfl
          · exact absurd (congrArg (· / 7) (show x0 = x1 from w)) n01
          · exact absurd (congrArg (· / 7) (show x0 = x2 from w)) n02
          · exact absurd (congrArg (· / 7) (show x0 = x3 from w)) n03
          · exact absurd (congrArg (· / 7) (show x0 = x1 from w.symm)) n01
          · rfl
          · exact absurd (congrArg (· / 7) (show x1 = x2 from w)) n12
          · exact absurd (congrArg (· / 7) (show x1 = x3 from w)) n13
          · exact absurd (congrArg (· / 7) (show x0 = x2 from w.symm)) n02
          · exact absurd (congrArg (· / 7) (show x1 = x2 from w.symm)) n12
          · rfl
          · exact absurd (congrArg (· / 7) (show x2 = x3 from w)) n23
          · exact absurd (congrArg (· / 7) (show x0 = x3 from w.symm)) n03
          · exact absurd (congrArg (· / 7) (show x1 = x3 from w.symm)) n13
          · exact absurd (congrArg (· / 7) (show x2 = x3 from w.symm)) n23
          · rfl
    · exact ⟨fun _ => 0, fun c => absurd c hf⟩
  obtain ⟨K, hK⟩ : ∃ K, K = (if kd = 5 then 3 else 4) := ⟨_, rfl⟩
  have K0 : 0 < K := by rw [hK]; split <;> omega
  rw [← hK] at many
  have inj := cnt_inj (X := fun c => fstG (gngb nb) (orbN φ) (c / K)) (Y := brgB nb) (f := fun c => Classical.choose (many (c / K)) (c % K)) (m := 49) (49 * K) (fun c _ hx => by
    have := (Classical.choose_spec (many (c / K)) hx).1 (c % K) (Nat.mod_lt _ K0)
    exact ⟨((bg _).mp this.1).1.1, this.1⟩) (fun c c' _ _ hx hx' w => by
    have a := Classical.choose_spec (many (c / K)) hx
    have a' := Classical.choose_spec (many (c' / K)) hx'
    have o1 := (a.1 (c % K) (Nat.mod_lt _ K0)).2
    have o2 := (a'.1 (c' % K) (Nat.mod_lt _ K0)).2
    have w : Classical.choose (many (c / K)) (c % K) = Classical.choose (many (c' / K)) (c' % K) := w
    rw [← w] at o2
    have oo := oe.2.2 _ _ _ o1 (oe.2.1 _ _ o2)
    have er : c / K = c' / K := by
      obtain ⟨g1, l1⟩ := fstG_t.mp hx
      obtain ⟨g2, l2⟩ := fstG_t.mp hx'
      rcases Nat.lt_trichotomy (c / K) (c' / K) with z | z | z
      · exact absurd oo (l2 _ z g1)
      · exact z
      · exact absurd (oe.2.1 _ _ oo) (l1 _ z g2)
    rw [← er] at w
    have em := a.2 _ _ (Nat.mod_lt _ K0) (Nat.mod_lt _ K0) w
    rw [← Nat.div_add_mod c K, ← Nat.div_add_mod c' K, er, em])
  rw [cnt_blk K0] at inj
  have wk : cnt (fstG (gngb nb) (orbN φ)) 49 = wkE nb ρ := by rw [hφ]; rfl
  rw [wk] at inj
  rw [← e2, hb] at low up
  rw [hb] at nd
  have up : cnt (brgB nb) 49 ≤ _ := up
  by_cases k5 : kd = 5
  · rw [if_pos k5] at hK low up nd
    rw [if_pos k5] at low up
    subst hK
    omega
  · rw [if_neg k5] at hK low up nd
    rw [if_neg k5] at low up
    subst hK
    omega
end
