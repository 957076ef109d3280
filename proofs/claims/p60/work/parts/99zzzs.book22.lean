/-! THE BOOK: an error is written down. -/
section
theorem bST.er {Ln Ln1 : Nat → Nat} {V V1 : mV} {n : Nat} {Q : Nat → qT} (h : bST Ln V n Q) (a : mAv wX11_addError V V1) (b : mAl wX11_addError Ln Ln1) (f0 : ∀ i, i ≠ 17 → i ≠ 18 → V1.fI 0 i = V.fI 0 i) (hc : ∃ c, V1.fI 0 17 = nI c ∧ c ≤ 8192 ∧ 4 * c ≤ Ln1 9) (hk : ∃ k, k ≤ 7 ∧ Ln1 9 = 256 * 2 ^ k) : bST Ln1 V1 n Q := by
  obtain ⟨hB, ⟨⟨us, u1⟩, h2, ⟨fc, cc, c1, c2, c3, c4⟩, ⟨c, d1, d2, d3, d4, d5⟩, ⟨p, p1, p2⟩, _, _⟩, hO⟩ := h
  have cl4 : V1.cl = V.cl := a.2 (by unfold wX11_addError; omega)
  refine ⟨(hB.fr a b (f0 2 (by decide) (by decide)) (fun i h1 h2 _ => by unfold wX11_addError; omega)).1, ⟨⟨us, u1.mv2 a b (by unfold wX11_addError; omega) (by unfold wX11_addError; omega)⟩, fun i hi => ?_, ⟨fc, cc, c1, c2, by rw [f0 9 (by decide) (by decide)]; exact c3, by rw [f0 10 (by decide) (by decide)]; exact c4⟩, ⟨c, by rw [f0 15 (by decide) (by decide)]; exact d1, d2, fun i hi => ?_, fun a b h1 h2 => by rw [cl4]; exact d4 a b h1 h2, fun i hi => ?_⟩, ⟨p, by rw [f0 13 (by decide) (by decide)]; exact p1, p2⟩, hc, hk⟩, hO⟩
  · obtain ⟨ys, y⟩ := h2 i hi
    exact ⟨ys, y.mv2 a b (by unfold wX11_addError; omega) (by unfold wX11_addError; omega)⟩
  · rw [cl4]
    obtain ⟨⟨z', z1', z2'⟩, xs', x1'⟩ := d3 i hi
    refine ⟨⟨z', z1', z2'⟩, xs', ?_⟩
    rw [z2'] at x1' ⊢
    exact x1'.mv2 a b (by unfold wX11_addError; omega) (by unfold wX11_addError; omega)
  · rw [cl4]
    obtain ⟨⟨z', z1', z2'⟩, _⟩ := d3 i (by omega)
    have := d5 i hi
    rw [z2'] at this ⊢
    rw [(a.1 (1024 + 4 * z') (by unfold wX11_addError; omega)).1]
    exact this
theorem T_errB {Ln : Nat → Nat} {V : mV} {c : Nat} {e l n : Int32} (h : V.fI 0 17 = nI c) (hL : 4 * c + 3 < Ln 9) (hb : Ln 9 ≤ 32768) : mTo (mX11_addError_b Ln e l n (nI (4 * c)) V) (fun p => p.2.1 = Ln ∧ p.2.2.fI 0 17 = nI (c + 1) ∧ ∀ i, i ≠ 17 → p.2.2.fI 0 i = V.fI 0 i) := by
  unfold mX11_addError_b
  refine mTo.ix rfl (by omega) (by omega) (mTo.lt ?_)
  rw [show (nI (4 * c) + (1 : Int32)) = nI (4 * c + 1) from nI_1 _, show (nI (4 * c) + (2 : Int32)) = nI (4 * c + 2) from nI_add _ _, show (nI (4 * c) + (3 : Int32)) = nI (4 * c + 3) from nI_add _ _]
  refine mTo.ix rfl (by omega) (by omega) (mTo.lt (mTo.ix rfl (by omega) (by omega) (mTo.lt (mTo.ix rfl (by omega) (by omega) (mTo.lt (mTo.ret ⟨rfl, ?_, fun i hi => ?_⟩))))))
  · show (mF _ 0 17 (V.fI 0 17 + 1)).fI 0 17 = _
    rw [mF_at, h, nI_1]
  · show (mF _ 0 17 (V.fI 0 17 + 1)).fI 0 i = _
    rw [mF_no (Or.inr hi)]
    rfl
theorem T_addError {F n : Nat} {Q : Nat → qT} {Ln : Nat → Nat} {V : mV} {e l m : Int32} (hF : 2 ≤ F) (hI : bST Ln V n Q) : mTo (mX11_addError F Ln e l m V) (fun p => bAt Ln 0 n Q p.2.1 p.2.2 ∧ mAv wX11_addError V p.2.2 ∧ mAl wX11_addError Ln p.2.1 ∧ (∀ i, i ≠ 17 → p.2.2.fI 0 i = V.fI 0 i) ∧ ∃ c c', V.fI 0 17 = nI c ∧ p.2.2.fI 0 17 = nI c' ∧ c ≤ c' ∧ c' ≤ 8192) := by
  obtain ⟨c, c1, c2, c3⟩ := hI.2.1.2.2.2.2.2.1
  obtain ⟨k, k1, k2⟩ := hI.2.1.2.2.2.2.2.2
  have p2 : (2 : Nat) ^ k ≤ 2 ^ 7 := Nat.pow_le_pow_right (by decide) k1
  have fr := fun p h => @NX11_addError F Ln (p : Unit × (Nat → Nat) × mV).2.1 V p.2.2 e l m p.1 h
  have fin : ∀ L, L = Ln ∨ (L = va_up Ln 9 (2 * Ln 9) ∧ k ≤ 6) → ∀ p : Unit × (Nat → Nat) × mV, 4 * c + 3 < L 9 → c < 8192 → mX11_addError F Ln e l m V = some p → p.2.1 = L ∧ p.2.2.fI 0 17 = nI (c + 1) ∧ (∀ i, i ≠ 17 → p.2.2.fI 0 i = V.fI 0 i) → bAt Ln 0 n Q p.2.1 p.2.2 ∧ mAv wX11_addError V p.2.2 ∧ mAl wX11_addError Ln p.2.1 ∧ (∀ i, i ≠ 17 → p.2.2.fI 0 i = V.fI 0 i) ∧ ∃ c c', V.fI 0 17 = nI c ∧ p.2.2.fI 0 17 = nI c' ∧ c ≤ c' ∧ c' ≤ 8192 := fun L hL p h3 h8 ep hp => by
    obtain ⟨q1, q2, q3⟩ := hp
    obtain ⟨f1, f2⟩ := fr p ep
    refine ⟨⟨hI.er f1 f2 (fun i h _ => q3 i h) ⟨c + 1, q2, by omega, by rw [q1]; omega⟩ ?_, by rw [f2 3000 (by unfold wX11_addError; omega)]; omega, f2 3001 (by unfold wX11_addError; omega)⟩, f1, f2, q3, c, c + 1, c1, q2, by omega, by omega⟩
    rw [q1]
    rcases hL with e | ⟨e, k6⟩
    · rw [e]
      exact ⟨k, k1, k2⟩
    · rw [e, show va_up Ln 9 (2 * Ln 9) 9 = 2 * Ln 9 from mUp_eq _ _ _, k2]
      exact ⟨k + 1, by omega, by rw [Nat.pow_succ]; omega⟩
  have st : mTo (mX11_addError F Ln e l m V) (fun p => (p = ((), Ln, V)) ∨ ∃ L, (L = Ln ∨ (L = va_up Ln 9 (2 * Ln 9) ∧ k ≤ 6)) ∧ 4 * c + 3 < L 9 ∧ c < 8192 ∧ p.2.1 = L ∧ p.2.2.fI 0 17 = nI (c + 1) ∧ (∀ i, i ≠ 17 → p.2.2.fI 0 i = V.fI 0 i)) := by
    unfold mX11_addError
    rw [if_neg (by omega)]
    refine mTo.ltI (b := 8192) c1 rfl (by omega) (by omega) (fun h8 => mTo.lt ?_) (fun _ => mTo.ret (Or.inl rfl))
    rw [c1, show (4 : Int32) = nI 4 from rfl, nI_mulC, show c * 4 = 4 * c by omega]
    refine mTo.ltI (b := Ln 9) rfl rfl (by omega) (by omega) (fun h9 => ?_) (fun h9 => ?_)
    · have : 4 * c + 3 < Ln 9 := by omega
      exact (T_errB c1 this (by omega)).mono (fun p h => Or.inr ⟨Ln, Or.inl rfl, this, h8, h⟩)
    · have k6 : k ≤ 6 := by
        rcases Nat.lt_or_ge k 7 with y | y
        · omega
        · have : k = 7 := by omega
          rw [this] at k2
          omega
      have p6 : (2 : Nat) ^ k ≤ 2 ^ 6 := Nat.pow_le_pow_right (by decide) k6
      have p0 : 1 ≤ (2 : Nat) ^ k := Nat.one_le_two_pow
      have e9 : va_up Ln 9 (2 * Ln 9) 9 = 2 * Ln 9 := mUp_eq _ _ _
      refine mTo.gd (fun z => z ⟨by omega, by omega⟩) ?_
      exact (T_errB (V := mRI V 9 _) c1 (by rw [e9]; omega) (by rw [e9]; omega)).mono (fun p h => Or.inr ⟨_, Or.inr ⟨rfl, k6⟩, by rw [e9]; omega, h8, h⟩)
  obtain ⟨p, e1, h⟩ := st
  refine ⟨p, e1, ?_⟩
  rcases h with h | ⟨L, l1, l2, l3, l4⟩
  · rw [h]
    exact ⟨⟨hI, Nat.le_refl _, rfl⟩, mAv.rf, mAl.rf, fun _ _ => rfl, c, c, c1, c1, Nat.le_refl _, c2⟩
  · exact fin L l1 p l2 l3 e1 l4
end
