/-! THE BOOK: an item is dropped. -/
section
theorem nI_subA (a b : Nat) : nI (a + b) - nI a = nI b := by
  rw [← nI_add, Int32.add_comm, Int32.add_sub_cancel]
def dropD (q : qT) (i y : Nat) : Int32 := if 5 * (Qm q - 1) ≤ y then 0 else if y < 5 * i then Qd q y else Qd q (y + 5)
theorem T_removeI {F e i m : Nat} {V : mV} (h6 : V.fI e 6 = nI m) (h16 : m ≤ 16) (hi : i < m) : mTo (mX3_removeItem F e (nI i) V) (fun p => p.2.fI e 6 = nI (m - 1) ∧ (∀ x, x ≠ 6 → p.2.fI e x = V.fI e x) ∧ (∀ y, y < 5 * (m - 1) → p.2.rI (e + 1) y = if y < 5 * i then V.rI (e + 1) y else V.rI (e + 1) (y + 5)) ∧ mAv (fun a => a = e ∨ a = e + 1) V p.2) := by
  obtain ⟨t, ht⟩ : ∃ t, t = m - i - 1 := ⟨_, rfl⟩
  have em : m = i + (t + 1) := by omega
  unfold mX3_removeItem
  rw [h6, show (5 : Int32) = nI 5 from rfl, nI_mulC, show nI m - nI i - 1 = nI t by rw [em, nI_subA, nI_pred], nI_mulC]
  have ep : nI m - 1 = nI (m - 1) := by
    rw [show m = (m - 1) + 1 by omega, nI_pred, show m - 1 + 1 - 1 = m - 1 by omega]
  rw [ep]
  refine mTo.lt (mTo.lt ?_)
  rw [nI_add, if_neg (nI_nn (by omega))]
  refine mTo.le (b := 0) rfl rfl (by omega) (by omega) (fun z => mTo.lt (mTo.ret ⟨mF_at, fun x h => mF_no (Or.inr h), fun y hy => ?_, mAv.F mAv.rf (Or.inl rfl)⟩)) (fun z => ?_)
  · rw [if_pos (by omega)]
    rfl
  · rw [if_neg (nI_nn (by omega)), if_neg (nI_nn (by omega)), if_neg (nI_nn (by omega)), nI_clamp (n := i * 5 + 5) (by omega), nI_clamp (n := t * 5) (by omega), nI_clamp (n := i * 5) (by omega)]
    refine mTo.gd (fun c => c (by omega)) (mTo.gd (fun c => c (by omega)) (mTo.lt (mTo.lt (mTo.ret ⟨?_, fun x h => mF_no (Or.inr h), fun y hy => ?_, mAv.F (mAv.RI mAv.rf (Or.inr rfl)) (Or.inl rfl)⟩))))
    · show (mF (mRI V (e + 1) _) e 6 (V.fI e 6 - 1)).fI e 6 = _
      rw [mF_at, h6, ep]
    · show va_up V.rI (e + 1) _ (e + 1) y = _
      rw [mUp_eq]
      unfold va_cpy
      by_cases c : i * 5 ≤ y ∧ y < i * 5 + t * 5
      · rw [if_pos c, if_neg (by omega), show i * 5 + 5 + (y - i * 5) = y + 5 by omega]
      · rw [if_neg c, if_pos (by omega)]
theorem itK_dn {k s i : Nat} {x : Nat → Int32} (h : itK k s (i + 1) x) : itK k s i x := by
  obtain ⟨q0, q1, q3, q4, q5, q7, q8, q9, q10, q11⟩ := h
  refine ⟨q0, q1, q3, q4, q5, q7, q8, fun e => ?_, q10, q11⟩
  obtain ⟨a, c, h1, h2, h3, h4, h5, h6, h7⟩ := q9 e
  exact ⟨a, c, h1, h2, h3, h4, h5, h6, fun _ => h7 (by omega)⟩
theorem ok_drop {q : qT} {i : Nat} (ho : okIt q) (hi : i < Qm q) : okIt (qIt q (Qm q - 1) (dropD q i)) := by
  obtain ⟨k12, s0, s1, m1, its, dst⟩ := id ho
  obtain ⟨N, hN⟩ : ∃ N, Qm q = N + 1 := ⟨Qm q - 1, by omega⟩
  have eN : Qm q - 1 = N := by omega
  have lo : ∀ o j, o < i → o < N → j < 5 → dropD q i (5 * o + j) = Qd q (5 * o + j) := fun o j h1 h2 h3 => by
    unfold dropD
    rw [eN, if_neg (by omega), if_pos (by omega)]
  have hi' : ∀ o j, i ≤ o → o < N → j < 5 → dropD q i (5 * o + j) = Qd q (5 * (o + 1) + j) := fun o j h1 h2 h3 => by
    unfold dropD
    rw [eN, if_neg (by omega), if_neg (by omega), show 5 * o + j + 5 = 5 * (o + 1) + j by omega]
  refine ⟨k12, s0, s1, (show Qm q - 1 ≤ mostN (Qk q) (Qs q) by omega), fun o hom => ?_, fun hk a b ha hb e => ?_⟩
  · have hom : o < Qm q - 1 := hom
    rcases Nat.lt_or_ge o i with c | c
    · exact (itK_c (fun j hj => (lo o j c (by omega) hj).symm) ho.s9 (s4_of ho)).mp (its o (by omega))
    · exact (itK_c (fun j hj => (hi' o j c (by omega) hj).symm) ho.s9 (s4_of ho)).mp (itK_dn (its (o + 1) (by omega)))
  · have ha : a < Qm q - 1 := ha
    have hb : b < Qm q - 1 := hb
    have e : cA (dropD q i) a = cA (dropD q i) b ∧ cB (dropD q i) a = cB (dropD q i) b ∨ cA (dropD q i) a = cB (dropD q i) b ∧ cB (dropD q i) a = cA (dropD q i) b := e
    obtain ⟨f, hf⟩ : ∃ f : Nat → Nat, ∀ o, f o = if o < i then o else o + 1 := ⟨_, fun _ => rfl⟩
    have cc : ∀ o, o < Qm q - 1 → cA (dropD q i) o = cA (Qd q) (f o) ∧ cB (dropD q i) o = cB (Qd q) (f o) := fun o h => by
      unfold cA cB
      rw [hf]
      rcases Nat.lt_or_ge o i with c | c
      · rw [if_pos c, ← lo o 1 c (by omega) (by decide)]
        have := lo o 0 c (by omega) (by decide)
        rw [Nat.add_zero] at this
        rw [this]
        exact ⟨rfl, rfl⟩
      · rw [if_neg (by omega), ← hi' o 1 c (by omega) (by decide)]
        have := hi' o 0 c (by omega) (by decide)
        rw [Nat.add_zero, Nat.add_zero] at this
        rw [this]
        exact ⟨rfl, rfl⟩
    rw [(cc a ha).1, (cc a ha).2, (cc b hb).1, (cc b hb).2] at e
    have lt : ∀ o, o < Qm q - 1 → f o < Qm q := fun o h => by
      rw [hf]
      by_cases c : o < i
      · rw [if_pos c]; omega
      · rw [if_neg c]; omega
    have := dst hk (f a) (f b) (lt a ha) (lt b hb) e
    rw [hf, hf] at this
    by_cases c1 : a < i
    · by_cases c2 : b < i
      · rw [if_pos c1, if_pos c2] at this; exact this
      · rw [if_pos c1, if_neg c2] at this; omega
    · by_cases c2 : b < i
      · rw [if_neg c1, if_pos c2] at this; omega
      · rw [if_neg c1, if_neg c2] at this; omega
theorem T_dropI {F n j i : Nat} {Q : Nat → qT} {Ln : Nat → Nat} {V : mV} (hF : 2 ^ 34 ≤ F) (hI : bST Ln V n Q) (hj : j < n) (hT : Ln 3000 < 5000) (hi5 : i < 2 ^ 20) : mTo (mX11_drop F Ln (nI j) (nI i) V) (fun p => (i < Qm (Q j) ∧ p.1 = .inr (nI (Qm (Q j) - 1)) ∧ bST p.2.1 p.2.2 n (va_up Q j (qIt (Q j) (Qm (Q j) - 1) (dropD (Q j) i))) ∧ undS p.2.2 j (Q j) ∧ p.2.1 = Ln) ∨ (p.1 = .inl "java/util/NoSuchElementException" ∧ bAt Ln 1 n Q p.2.1 p.2.2)) := by
  obtain ⟨⟨⟨q1, q2, q3, q4⟩, hS, hW⟩, hX, hO⟩ := id hI
  obtain ⟨qa, qb, qc⟩ := q3 j hj
  have m16 := qb.m16
  have k12 := qb.1
  unfold mX11_drop
  refine T_inr (T_entryAt q1 q2 hj) ?_
  rcases Nat.lt_or_ge i (Qm (Q j)) with hi | hi
  · refine T_inr (a := ()) (Ln := Ln) (V := V) (by rw [qa.2.2.2.2.2.2.1, T_place hi (by omega)]) ?_
    obtain ⟨p3, e3, r1, r2, r3, r4⟩ := T_remember (F := F) (j := j) (l := 100) (by omega) hX.2.2.1 (by omega) (by decide) qa m16
    obtain ⟨u3, V3⟩ := p3
    have r1 := r1 (by decide) (by decide) (by decide)
    have r1 : undS V3 j (Q j) := r1
    have r2 : chS V3 := r2
    have r3 : ∀ i, i ≠ 9 → i ≠ 10 → V3.fI 0 i = V.fI 0 i := r3
    have r4 : mAv wX11_remember V V3 := r4
    refine T_iW e3 ?_
    have fe : V3.fI (256 + 8 * j) = V.fI (256 + 8 * j) := (r4.1 _ (by unfold wX11_remember; omega)).1
    have re : V3.rI (256 + 8 * j + 1) = V.rI (256 + 8 * j + 1) := (r4.1 _ (by unfold wX11_remember; omega)).2.2.1
    have qa3 : isQn V3 (256 + 8 * j) (Q j) := qa.mv (fun i _ => by rw [fe]) re
    obtain ⟨p4, e4, d1, d2, d3, d4⟩ := T_removeI (F := F) qa3.2.2.2.2.2.2.1 m16 hi
    obtain ⟨u4, V4⟩ := p4
    have d1 : V4.fI (256 + 8 * j) 6 = nI (Qm (Q j) - 1) := d1
    have d2 : ∀ x, x ≠ 6 → V4.fI (256 + 8 * j) x = V3.fI (256 + 8 * j) x := d2
    have d3 : ∀ y, y < 5 * (Qm (Q j) - 1) → V4.rI (256 + 8 * j + 1) y = if y < 5 * i then V3.rI (256 + 8 * j + 1) y else V3.rI (256 + 8 * j + 1) (y + 5) := d3
    have d4 : mAv (fun a => a = 256 + 8 * j ∨ a = 256 + 8 * j + 1) V3 V4 := d4
    refine T_iW e4 ?_
    have f0 : V4.fI 0 = V3.fI 0 := (d4.1 0 (by omega)).1
    refine mTo.lt (mTo.ret (Or.inl ⟨hi, ?_, ?_, ?_, rfl⟩))
    · show Sum.inr ((mF V4 (256 + 8 * j) 9 0).fI (256 + 8 * j) 6) = _
      rw [mF_no (Or.inr (by decide)), d1]
    · refine hI.ch hj ?_ (fun i i9 i10 => ?_) ?_ ?_ (ok_drop qb hi) qc mF_at (acyc_it q4 rfl) (hO j hj)
      · refine mAv.F (mAv.tr (mAv.tr mAv.rf r4 (fun i z => ?_)) d4 (fun i z => ?_)) ?_
        · unfold wX11_remember at z; unfold wCh; omega
        · unfold wCh; omega
        · unfold wCh; omega
      · rw [mF_no (Or.inl (by omega)), f0]
        exact r3 i i9 i10
      · obtain ⟨fc, cc, c1, c2, c3, c4⟩ := r2
        exact ⟨fc, cc, c1, c2, by rw [mF_no (Or.inl (by omega)), f0]; exact c3, by rw [mF_no (Or.inl (by omega)), f0]; exact c4⟩
      · obtain ⟨a0, a1, a2, a3, a4, a5, a6, a7, a8⟩ := qa3
        have fx : ∀ x, x ≠ 6 → x ≠ 9 → (mF V4 (256 + 8 * j) 9 0).fI (256 + 8 * j) x = V3.fI (256 + 8 * j) x := fun x h6 h9 => by rw [mF_no (Or.inr h9), d2 x h6]
        refine ⟨by rw [fx 0 (by decide) (by decide), a0]; rfl, by rw [fx 1 (by decide) (by decide), a1]; rfl, by rw [fx 2 (by decide) (by decide), a2]; rfl, by rw [fx 3 (by decide) (by decide), a3]; rfl, by rw [fx 4 (by decide) (by decide), a4]; rfl, by rw [fx 5 (by decide) (by decide), a5]; rfl, by rw [mF_no (Or.inr (by decide)), d1]; rfl, fun y hy => ?_, fun y hy => ?_⟩
        · show V4.rI (256 + 8 * j + 1) y = dropD (Q j) i y
          have hy : y < 5 * (Qm (Q j) - 1) := hy
          rw [d3 y hy]
          unfold dropD
          rw [if_neg (show ¬ 5 * (Qm (Q j) - 1) ≤ y by omega)]
          by_cases c : y < 5 * i
          · rw [if_pos c, if_pos c]
            exact a7 y (by omega)
          · rw [if_neg c, if_neg c]
            exact a7 (y + 5) (by omega)
        · have hy : 5 * (Qm (Q j) - 1) ≤ y := hy
          show dropD (Q j) i y = 0
          unfold dropD
          rw [if_pos hy]
    · exact r1.mv (w := fun i => i = 256 + 8 * j ∨ i = 256 + 8 * j + 1) (mAv.F d4 (Or.inl rfl)) (by omega) (by omega) (by omega) (fun i _ _ => by omega)
  · refine T_inl (y := "java/util/NoSuchElementException") (Ln := va_up Ln 3000 (Ln 3000 + 1)) (V := V) ?_ ?_
    · unfold mX11_testPlace mTh
      rw [qa.2.2.2.2.2.2.1, if_neg (nI_nn (by omega)), if_neg (fun c => by
        have := i32lt.mp c
        rw [nI_toInt (by omega), nI_toInt (by omega)] at this
        omega), if_pos hT]
    · exact mTo.ret (Or.inr ⟨rfl, hI.th, by show va_up Ln 3000 (Ln 3000 + 1) 3000 ≤ _; rw [up_3000]; exact Nat.le_refl _, up_3001 (Ln := Ln) (x := Ln 3000 + 1)⟩)
theorem T_drop {G : wkG} {F n j i : Nat} {Q : Nat → qT} {Ln : Nat → Nat} {V : mV} (hF : 2 ^ 34 ≤ F) (hI : bST Ln V n Q) (hj : j < n) (hT : Ln 3000 < 5000) (hi5 : i < 2 ^ 20) : mTo (mL_drop G F Ln (nI j) (nI i) V) (fun p => (i < Qm (Q j) ∧ p.1 = Int32.toInt64 (nI (Qm (Q j) - 1)) ∧ bST p.2.1 p.2.2 n (va_up Q j (qIt (Q j) (Qm (Q j) - 1) (dropD (Q j) i))) ∧ undS p.2.2 j (Q j) ∧ p.2.1 = Ln) ∨ (p.1 = -4000000000000000002 ∧ bAt Ln 1 n Q p.2.1 p.2.2)) := by
  unfold mL_drop
  refine mTo.B (T_dropI hF hI hj hT hi5) (fun r L V1 _ h => ?_) (fun y L V1 _ h => ?_)
  · rcases h with ⟨h1, h3, h4, h5, h6⟩ | ⟨hh, _⟩
    · cases h3
      exact mTo.ret (Or.inl ⟨h1, rfl, h4, h5, h6⟩)
    · cases hh
  · rcases h with ⟨_, h3, _⟩ | ⟨hh, h2⟩
    · cases h3
    · cases hh
      rw [if_neg (by decide), if_pos rfl]
      exact mTo.ret (Or.inr ⟨rfl, h2⟩)
end
