/-! THE PURE PART, drawings: the judge of drawings. -/
section
/-- the edges that count -/
def nbP (m b : Nat) (A B : Nat → Nat) : Nat → Nat := nearN (fun i => decide (i < min m b)) A B m
theorem T_counted {F e s m b : Nat} {d : Nat → Int32} {V : mV} (hm : m ≤ 11) (hb : b ≤ 11) (hq : enQ V e s m (nI b) d) : mX2_countedItems F e V = some (nI (2 ^ min m b - 1)) := by
  unfold mX2_countedItems
  have e : (if V.fI e 6 < V.fI e 8 then V.fI e 6 else V.fI e 8) = nI (min m b) := by
    rw [hq.2.1, hq.2.2.1]
    by_cases c : m < b
    · rw [if_pos (i32lt.mpr (by rw [nI_toInt (by omega), nI_toInt (by omega)]; omega)), Nat.min_eq_left (by omega)]
    · rw [if_neg (fun w => c (by
        have := i32lt.mp w
        rw [nI_toInt (by omega), nI_toInt (by omega)] at this
        omega)), Nat.min_eq_right (by omega)]
  rw [e, nb_full (by omega)]
theorem has_full {F c i : Nat} (hc : c ≤ 11) (hi : i < 32) : mX11_has F (nI (2 ^ c - 1)) (nI i) = some (if decide (i < c) = true then 1 else 0) := by
  have : 2 ^ c ≤ 2 ^ 11 := Nat.pow_le_pow_right (by decide) hc
  rw [nb_has (by omega) hi, Nat.testBit_two_pow_sub_one]
/-- what the judge of drawings asks -/
def drawOK (nb : Nat → Nat) (n : Nat) (xs : List Int32) : Prop := xs.length = sdN nb 7 ∧ ∃ t s, (∀ i, i < sdN nb 7 → xs.getD i 0 = nI (t i)) ∧ okR nb t s 7 ∧ (∀ u, u < 7 → 0 < degN nb u → isLow nb u (t (sdN nb u))) ∧ wOK nb t s (n - 1)
theorem T_judgeDrawing_go {F n r : Nat} {nb t : Nat → Nat} {Ln : Nat → Nat} {xs : List Int32} (hF : 2 ^ 12 ≤ F) (hr : 256 ≤ r) (hg : gph nb n) (n0 : 0 < n) (hl : xs.length = sdN nb 7) (ht : ∀ p, t p = pX xs p) : ∀ k' p s (V : mV), sdN nb 7 < p + k' → p ≤ sdN nb 7 → rowIs Ln V r xs → edS V nb n → prS nb t s p → prV V nb t p → (∀ q, q < p → xs.getD q 0 = nI (t q)) → mTo (mX2_judgeDrawing_go F k' 0 Ln r (nI p) V) (fun v => v.1 = 0 ↔ drawOK nb n xs) := by
  obtain ⟨g1, g2, g3, g4, g5, g6⟩ := id hg
  -- the rounds that it may be are those that it says
  have same : ∀ t', (∀ i, i < sdN nb 7 → xs.getD i 0 = nI (t' i)) → ∀ s', okR nb t' s' 7 → ∀ p, p < sdN nb 7 → t' p = t p := fun t' h1 s' h2 p hp => by
    obtain ⟨u, u1, u2⟩ := pl_ex 7 hp
    have := (h2 u u1 p u2).1
    rw [ht, pX_eq (h1 p hp) (by omega)]
  intro k'
  induction k' with
  | zero => intro p s V h1 h2; omega
  | succ k ih =>
    intro p s V h1 h2 hR hE hS hV hx
    have hE' := hE
    obtain ⟨a1, a2, a3, a4, a5, a6⟩ := hE
    rw [mX2_judgeDrawing_go, if_pos rfl]
    unfold mX2_judgeDrawing_b0
    have e1 : nI n - 1 = nI (n - 1) := by
      obtain ⟨x, hx⟩ : ∃ x, n = x + 1 := ⟨n - 1, by omega⟩
      rw [hx, Nat.add_sub_cancel, ← nI_1]
      grind
    rw [a1, e1]
    have no2 : ∀ {P : Prop} {x : Int32}, x ≠ 0 → ¬ P → (x = 0 ↔ P) := fun a b => ⟨fun c => absurd c a, fun c => absurd c b⟩
    refine mTo.le a2 rfl (by omega) (by omega) (fun z => ?_) (fun z => mTo.ix rfl (by omega) (by omega) (mTo.lt ?_))
    · have ep : p = sdN nb 7 := by omega
      have ok7 : okR nb t s 7 := fun u hu q hq => hS.1 u q hu (by have := pl_lt (l := 6) (show u ≤ 6 by omega) hq; have e : sdN nb (6 + 1) = sdN nb 7 := rfl; omega) hq
      have okn : okR nb t s (n - 1 + 1) := fun u hu => ok7 u (by omega)
      have lows : ∀ u, u < 7 → 0 < degN nb u → isLow nb u (t (sdN nb u)) := fun u hu hd => hS.2 u hu hd (by
        have : sdN nb (u + 1) = sdN nb u + degN nb u := rfl
        have := sdN_mono (nb := nb) (a := u + 1) 7 (by omega)
        omega)
      have le : sdN nb (n - 1 + 1) ≤ p := by rw [ep]; exact sdN_mono 7 (by omega)
      refine mTo.N (T_countWalks hF hg hE' (show n - 1 < n by omega) okn (okT_rg (s := s) (show n - 1 < 7 by omega) hV le)) (fun v _ hv => mTo.ix rfl (by omega) (by omega) ?_)
      subst hv
      rw [nI_clamp (n := n - 1) (by omega), a6 (n - 1) (by omega)]
      refine mTo.ite (fun w => mTo.ret ⟨fun _ => ⟨hl, t, s, fun i hi => hx i (by omega), ok7, lows, (due_iff hg (by omega) okn).mp w⟩, fun _ => rfl⟩) (fun w => mTo.ret (no2 (show (3 : Int32) ≠ 0 by decide) (fun ⟨_, t', s', b1, b2, b3, b4⟩ => w ((due_iff hg (by omega) okn).mpr ?_))))
      refine (wOK_c (by omega) okn (fun u hu => b2 u (by omega)) (fun u hu q hq => ?_)).mpr b4
      have := pl_lt hu hq
      exact (same t' b1 s' b2 q (by omega)).symm
    · obtain ⟨u, u1, u2⟩ := pl_ex 7 z
      have ou := ow_pl u1 u2
      have gu := deg_n hg (deg_pos u2)
      obtain ⟨m, m1, m2, m3⟩ := hV.2.2 u u1
      rw [nI_clamp (n := p) (by omega), a5 p z, ou]
      refine mTo.so (T_rAt hR (by omega)) ?_
      obtain ⟨x, hxx⟩ : ∃ x, x = xs.getD p 0 := ⟨_, rfl⟩
      rw [← hxx]
      have bad : (∀ o, o < n → x = nI o → (nb u).testBit o = true → m.testBit o = false → (p = sdN nb u → isLow nb u o) → False) → ¬ drawOK nb n xs := fun w ⟨_, t', s', b1, b2, b3, b4⟩ => by
        obtain ⟨c1, c2, c3⟩ := b2 u u1 p u2
        refine w (t' p) (bit_n hg u1 c1 c2) (by rw [hxx, b1 p z]) c2 ?_ (fun e => ?_)
        · cases e : m.testBit (t' p) with
          | false => rfl
          | true =>
            obtain ⟨q, q1, q2, q3⟩ := (m3 _).mp e
            have := okT_inj b2 u1 u2 q2 (by rw [same t' b1 s' b2 q (by omega), q3])
            omega
        · have := b3 u u1 (deg_pos u2)
          rw [← e] at this
          exact this
      refine mTo.ite (fun w => mTo.ret (no2 (show (2 : Int32) ≠ 0 by decide) (bad (fun o ho eo _ _ _ => ?_)))) (fun w => mTo.ite (fun w2 => mTo.ret (no2 (show (2 : Int32) ≠ 0 by decide) (bad (fun o ho eo _ _ _ => ?_)))) (fun w2 => ?_))
      · rw [eo] at w
        have := i32lt.mp w
        rw [nI_toInt (by omega)] at this
        have e0 : (0 : Int32).toInt = 0 := rfl
        omega
      · rw [eo] at w2
        have := i32le.mp w2
        rw [nI_toInt (by omega), nI_toInt (by omega)] at this
        omega
      · obtain ⟨o, o1, o2⟩ : ∃ o, o < n ∧ x = nI o := by
          refine i32nat (by omega) ⟨w, ?_⟩ n0
          have : ¬ nI n ≤ x := w2
          rw [i32le, nI_toInt (by omega)] at this
          rw [i32le, e1, nI_toInt (by omega)]
          omega
        rw [o2]
        refine mTo.ix rfl (by omega) (by omega) (mTo.ix rfl (by omega) (by omega) ?_)
        rw [nI_clamp (n := u) (by omega), a3 u u1, m1]
        refine mTo.hs (S := nsd (nb u) m) (j := o) (nb_not (by have := g4 u; omega)) rfl (by have := nsd_lt (T := m) (n := 7) (g4 u); omega) (by omega) (fun w => mTo.ret (no2 (show (2 : Int32) ≠ 0 by decide) (bad (fun o' ho eo c1 c2 _ => ?_)))) (fun w => mTo.ic rfl (by omega) (by omega) ?_)
        · have : o' = o := by
            rw [o2] at eo
            exact ((nI_eq (by omega) (by omega)).mp eo).symm
          rw [this] at c1 c2
          rw [nsd_bit, c1, c2] at w
          exact absurd w (by decide)
        · rw [nsd_bit, Bool.and_eq_true, Bool.not_eq_true'] at w
          obtain ⟨w1, w2⟩ := w
          have sm : sdN nb u ≤ sdN nb 7 := sdN_mono 7 (by omega)
          have tp : t p = o := by rw [ht, pX_eq (show xs.getD p 0 = nI o by rw [← hxx, o2]) (by omega)]
          -- the step
          have step : (p = sdN nb u → isLow nb u o) → mTo (mLt (mI V 28 (nI u) (nI (m ||| 2 ^ o))) fun V30 => (mBW (mX2_setPlace F (nI p) (nI o) V30) fun v31 V32 => (mLt (nI p + (1 : Int32)) fun x36 => (mX2_judgeDrawing_go F k 0 Ln r (x36) V32)))) (fun v => v.1 = 0 ↔ drawOK nb n xs) := fun hlow => by
            refine mTo.lt ?_
            obtain ⟨V3, hV3⟩ : ∃ V3, V3 = mI V 28 (nI u) (nI (m ||| 2 ^ o)) := ⟨_, rfl⟩
            rw [← hV3]
            have f3 : mAv wX2_fillsFrom V V3 := by rw [hV3]; exact mAv.rf.I (Or.inl rfl)
            have E3 : edS V3 nb n := hE'.mv f3 (by unfold wX2_fillsFrom; omega) (by unfold wX2_fillsFrom; omega) (by unfold wX2_fillsFrom; omega) (by unfold wX2_fillsFrom; omega) (by unfold wX2_fillsFrom; omega)
            have hset : mX2_setPlace F (nI p) (nI o) V3 = some ((), mI (mI V3 31 (nI p) (nI o)) 32 (nI (7 * u + o)) (nI p)) := T_setPlace (by omega) u1 (by omega) (by rw [E3.2.2.2.2.1 p z, ou])
            obtain ⟨Vs, hVs⟩ : ∃ Vs, Vs = mI (mI V3 31 (nI p) (nI o)) 32 (nI (7 * u + o)) (nI p) := ⟨_, rfl⟩
            rw [← hVs] at hset
            refine mTo.W (Q := fun r => r = ((), Vs)) ⟨((), Vs), hset, rfl⟩ (fun _ V2 e2 q => mTo.lt ?_)
            have q0 : V2 = mI (mI V3 31 (nI p) (nI o)) 32 (nI (7 * u + o)) (nI p) := (Prod.mk.inj q).2.trans hVs
            have f2 := NX2_setPlace e2
            have E2 : edS V2 nb n := E3.mv f2 (by unfold wX2_setPlace; omega) (by unfold wX2_setPlace; omega) (by unfold wX2_setPlace; omega) (by unfold wX2_setPlace; omega) (by unfold wX2_setPlace; omega)
            have R2 : rowIs Ln V2 r xs := (hR.mv f3 (by unfold wX2_fillsFrom; omega) (by unfold wX2_fillsFrom; omega)).mv f2 (by unfold wX2_setPlace; omega) (by unfold wX2_setPlace; omega)
            have h31 : ∀ q, V2.rI 31 q = if q = p then nI o else V.rI 31 q := fun q => by
              rw [q0, mI_no (by decide), mI_at (nI_clamp (n := p) (by omega)), hV3, mI_no (by decide)]
            have h32 : ∀ x, V2.rI 32 x = if x = 7 * u + o then nI p else V.rI 32 x := fun x => by
              rw [q0, mI_at (nI_clamp (n := 7 * u + o) (by omega)), mI_no (by decide), hV3, mI_no (by decide)]
            have h28 : ∀ w, V2.rI 28 w = if w = u then nI (m ||| 2 ^ o) else V.rI 28 w := fun w => by
              rw [q0, mI_no (by decide), mI_no (by decide), hV3, mI_at (nI_clamp (n := u) (by omega))]
            obtain ⟨P1, P2, P3⟩ := pr_up hg u1 (by omega) u2 hS hV w1 m1 m2 m3 w2 (fun c o' ho' => (hlow c).2.2 o' ho') h31 h32 h28
            have et : (fun q => if q = p then o else t q) = t := by
              funext q
              by_cases c : q = p
              · rw [if_pos c, c, tp]
              · rw [if_neg c]
            rw [et] at P1 P2
            rw [nI_1]
            refine ih (p + 1) _ V2 (by omega) (by omega) R2 E2 P1 P2 (fun q hq => ?_)
            by_cases c : q = p
            · rw [c, tp, ← hxx, o2]
            · exact hx q (by omega)
          rw [a4 u gu]
          refine mTo.eqI rfl rfl (by omega) (by omega) (fun e => mTo.ic rfl (by omega) (by omega) ?_) (fun e => mTo.ic rfl (by omega) (by omega) (mTo.ic rfl (by omega) (by omega) ?_))
          · refine mTo.N (T_lowest (F := F) (by omega) (show nb u < 2 ^ 31 by have := g4 u; omega)) (fun v _ hv => ?_)
            rcases hv with ⟨hv, _⟩ | ⟨i, i1, i2, i3, i4⟩
            · rw [hv, Nat.zero_testBit] at w1
              exact absurd w1 (by decide)
            · subst i2
              have lw : isLow nb u i := ⟨by
                apply Classical.byContradiction
                intro c
                have := i4 o (by omega)
                rw [w1] at this
                exact absurd this (by decide), i3, i4⟩
              refine mTo.eqI rfl rfl (by omega) (by omega) (fun y => mTo.ic rfl (by omega) (by omega) (mTo.ic rfl (by omega) (by omega) ?_)) (fun y => mTo.ret (no2 (show (2 : Int32) ≠ 0 by decide) (bad (fun o' ho eo c1 c2 c3 => ?_))))
              · rw [nb_one (by omega), nb_or]
                exact step (fun _ => by rw [y]; exact lw)
              · have : o' = o := by
                  rw [o2] at eo
                  exact ((nI_eq (by omega) (by omega)).mp eo).symm
                rw [this] at c3
                exact y (low_u (c3 e) lw)
          · rw [nb_one (by omega), nb_or]
            exact step (fun c => absurd c e)
theorem T_judgeDrawing {F e r s m b : Nat} {Ln : Nat → Nat} {A B : Nat → Nat} {d : Nat → Int32} {xs : List Int32} {V : mV} (hF : 2 ^ 22 ≤ F) (he : 256 ≤ e) (hr : 256 ≤ r) (hs : s ≤ 7) (s0 : 0 < s) (hm : m ≤ 11) (hb : b ≤ 11) (hd : qP d s m A B) (hq : enQ V e s m (nI b) d) (hR : rowIs Ln V r xs) : mTo (mX2_judgeDrawing F Ln e r V) (fun v => v.1 = 0 ↔ drawOK (nbP m b A B) s xs) := by
  have hg : gph (nbP m b A B) s := near_gph hs hm hd
  have g6 := hg.2.2.2.2.2
  unfold mX2_judgeDrawing mX2_judgeDrawing_s
  refine mTo.so (T_counted hm hb hq) (mTo.W (T_loadEdges (P := fun i => decide (i < min m b)) hF he hs hm hd hq (fun i hi => has_full (by omega) (by omega))) (fun _ V1 _ q => ?_))
  obtain ⟨q1, q2, q3⟩ := q
  have q1 : edS V1 (nbP m b A B) s := q1
  have q2 : ∀ u, u < 7 → V1.rI 28 u = 0 := q2
  have R1 := hR.mv q3 (by unfold wX2_loadEdges; omega) (by unfold wX2_loadEdges; omega)
  have n := hR.n
  refine mTo.eqI R1.1 q1.2.1 (by omega) (by omega) (fun z => ?_) (fun z => mTo.ret ⟨fun c => absurd (show (1 : Int32) = 0 from c) (by decide), fun c => absurd c.1 z⟩)
  exact T_judgeDrawing_go (by omega) hr hg s0 z (fun p => rfl) F 0 (fun _ => 0) V1 (by omega) (Nat.zero_le _) R1 q1 prS_0 (prV_0 q2) (fun q hq => absurd hq (Nat.not_lt_zero _))
end
