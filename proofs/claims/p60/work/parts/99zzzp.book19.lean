/-! THE BOOK: the law draws numbers and tells items. -/
section
def limV (k w : Nat) : Int32 := ((([[1, 9, 0, 10], [2, 6, 0, 14], [1, 7, 0, 12], [1, 4, 0, 41], [1, 6, 0, 7], [1, 4, -40, 81], [1, 1, 2, 500], [1, 1, 0, 4], [2, 5, 0, 5], [1, 1, 0, 8], [1, 8, 0, 8], [1, 7, 0, 7]] : List (List Int32)).getD k []).getD w 0)
theorem T_limitL {G : wkG} {F k w : Nat} {Ln : Nat → Nat} {V : mV} (hk : k < 12) (hw : w < 4) (hT : Ln 3000 < 5000) : mL_limit G F Ln (nI (ltK k)) (nI w) V = some (limV k w, va_up Ln 3000 (Ln 3000 + 1), V) := by
  have pk : ∀ a b c d : Int32, mPick4 Ln a b c d (nI w) V = some (([a, b, c, d] : List Int32).getD w 0, va_up Ln 3000 (Ln 3000 + 1), V) := fun a b c d => by
    unfold mPick4
    rw [if_neg (fun z => z hT), if_neg (show ¬ (nI w < 0 ∨ 4 ≤ (nI w).toNatClampNeg) from fun c => c.elim (nI_nn (by omega)) (by rw [nI_clamp (by omega)]; omega)), nI_clamp (by omega)]
    rcases (show w = 0 ∨ w = 1 ∨ w = 2 ∨ w = 3 by omega) with e | e | e | e <;> subst e <;> rfl
  rcases (show k = 0 ∨ k = 1 ∨ k = 2 ∨ k = 3 ∨ k = 4 ∨ k = 5 ∨ k = 6 ∨ k = 7 ∨ k = 8 ∨ k = 9 ∨ k = 10 ∨ k = 11 by omega) with e | e | e | e | e | e | e | e | e | e | e | e <;> subst e
  · exact (show mL_limit G F Ln (nI 109) (nI w) V = mPick4 Ln 1 9 0 10 (nI w) V from rfl).trans (pk _ _ _ _)
  · exact (show mL_limit G F Ln (nI 102) (nI w) V = mPick4 Ln 2 6 0 14 (nI w) V from rfl).trans (pk _ _ _ _)
  · exact (show mL_limit G F Ln (nI 112) (nI w) V = mPick4 Ln 1 7 0 12 (nI w) V from rfl).trans (pk _ _ _ _)
  · exact (show mL_limit G F Ln (nI 108) (nI w) V = mPick4 Ln 1 4 0 41 (nI w) V from rfl).trans (pk _ _ _ _)
  · exact (show mL_limit G F Ln (nI 115) (nI w) V = mPick4 Ln 1 6 0 7 (nI w) V from rfl).trans (pk _ _ _ _)
  · exact (show mL_limit G F Ln (nI 100) (nI w) V = mPick4 Ln 1 4 (-40) 81 (nI w) V from rfl).trans (pk _ _ _ _)
  · exact (show mL_limit G F Ln (nI 110) (nI w) V = mPick4 Ln 1 1 2 500 (nI w) V from rfl).trans (pk _ _ _ _)
  · exact (show mL_limit G F Ln (nI 114) (nI w) V = mPick4 Ln 1 1 0 4 (nI w) V from rfl).trans (pk _ _ _ _)
  · exact (show mL_limit G F Ln (nI 103) (nI w) V = mPick4 Ln 2 5 0 5 (nI w) V from rfl).trans (pk _ _ _ _)
  · exact (show mL_limit G F Ln (nI 119) (nI w) V = mPick4 Ln 1 1 0 8 (nI w) V from rfl).trans (pk _ _ _ _)
  · exact (show mL_limit G F Ln (nI 97) (nI w) V = mPick4 Ln 1 8 0 8 (nI w) V from rfl).trans (pk _ _ _ _)
  · exact (show mL_limit G F Ln (nI 120) (nI w) V = mPick4 Ln 1 7 0 7 (nI w) V from rfl).trans (pk _ _ _ _)
/-- a size that is drawn, a bound that is drawn -/
theorem lim_s : ∀ k, k < 12 → (limV k 0).toInt = (loS k : Int) ∧ 0 < (limV k 1).toInt ∧ (limV k 0).toInt + (limV k 1).toInt = (hiS k : Int) + 1 ∧ 0 < (limV k 3).toInt ∧ loB k ≤ (limV k 2).toInt ∧ (limV k 2).toInt + (limV k 3).toInt ≤ hiB k + 1 ∧ -40 ≤ (limV k 2).toInt ∧ (limV k 3).toInt ≤ 500 ∧ (limV k 2).toInt ≤ 2 := by decide
theorem i32addC {x y : Int32} (h1 : -2 ^ 30 ≤ x.toInt) (h2 : x.toInt < 2 ^ 30) (h3 : -2 ^ 30 ≤ y.toInt) (h4 : y.toInt < 2 ^ 30) : (x + y).toInt = x.toInt + y.toInt := by
  rw [Int32.toInt_add]
  exact Int.bmod_eq_of_le (by omega) (by omega)
theorem dr_size {k : Nat} {v : Int32} (hk : k < 12) (h0 : 0 ≤ v.toInt) (h1 : v.toInt < (limV k 1).toInt) : ∃ s, limV k 0 + v = nI s ∧ loS k ≤ s ∧ s ≤ hiS k := by
  obtain ⟨a1, a2, a3, _⟩ := lim_s k hk
  have h9 : ∀ k, k < 12 → hiS k ≤ 9 := by decide
  have := h9 k hk
  have e := i32addC (x := limV k 0) (y := v) (by omega) (by omega) (by omega) (by omega)
  refine ⟨loS k + v.toInt.toNat, ?_, by omega, by omega⟩
  refine Int32.toInt_inj.mp ?_
  rw [e, nI_toInt (by omega), a1]
  omega
theorem dr_bnd {k : Nat} {v : Int32} (hk : k < 12) (h0 : 0 ≤ v.toInt) (h1 : v.toInt < (limV k 3).toInt) : bndQ k (limV k 2 + v) := by
  obtain ⟨_, _, _, a4, a5, a6, a7, a8, a9⟩ := lim_s k hk
  have e := i32addC (x := limV k 2) (y := v) (by omega) (by omega) (by omega) (by omega)
  unfold bndQ
  rw [e]
  exact ⟨by omega, by omega⟩
theorem T_part {G : wkG} {F s : Nat} {c i a : Int32} (hL : G.1 9 ≤ 260) (h0 : 0 < s) (h9 : s ≤ 9) (ha : 0 ≤ a.toInt) : mTo (mL_part G F c (nI s) i a) (fun _ => True) := by
  have D : ∀ (n : Int32) (f : Int32 → Int32), 0 < n.toInt → mTo (mBN (mL_drawn G F a n) fun v => some (f v)) (fun _ => True) := fun n f h => mTo.N (T_drawn hL ha h) (fun _ _ _ => mTo.ret trivial)
  have es : 0 < (nI s).toInt := by rw [nI_toInt (by omega)]; omega
  have e2 : 0 < ((2 : Int32) * nI s + (1 : Int32)).toInt := by
    rw [show (2 : Int32) = nI 2 from rfl, nI_mulC, nI_1, nI_toInt (by omega)]; omega
  have e1 : 0 < (nI s + (1 : Int32)).toInt := by
    rw [nI_1, nI_toInt (by omega)]; omega
  unfold mL_part
  repeat' (refine mTo.ite (fun _ => ?_) (fun _ => ?_))
  all_goals first | exact D _ (fun v => v) es | exact D _ (fun v => v) (by decide) | exact D _ (fun v => v - (20 : Int32)) (by decide) | exact D _ (fun v => v - (6 : Int32)) (by decide) | exact D _ (fun v => v - (40 : Int32)) (by decide) | exact D _ (fun v => v - (9 : Int32)) (by decide) | exact D _ (fun v => v - (7 : Int32)) (by decide) | exact D _ (fun v => v - nI s) e2 | exact D _ (fun v => (1 : Int32) + v) (by decide) | exact D _ (fun v => v - (1 : Int32)) e1
theorem T_wgo {G : wkG} {F s a : Nat} {c l1 l2 : Int32} {Ln : Nat → Nat} {V : mV} {R : Int64 × (Nat → Nat) × mV → Prop} (hL : G.1 9 ≤ 260) (hF : 64 ≤ F) (h0 : 0 < s) (h9 : s ≤ 9) (ha : a < 2 ^ 20) (hg : c = 103 → s ≤ 6) (hR : ∀ t, mTo (mL_writes_b2 G F Ln l1 l2 t V) R) : mTo (mL_writes_go G F F 0 Ln l1 l2 (nI a) c (nI s) (fun _ => 0) (0 : Int32) V) R := by
  have g2 : ∀ k' t l4 l5 l6 l8, 1 ≤ k' → mTo (mL_writes_go G F k' 2 Ln l1 l2 l4 l5 l6 t l8 V) R := fun k' t l4 l5 l6 l8 h => by
    obtain ⟨k, rfl⟩ : ∃ k, k' = k + 1 := ⟨k' - 1, by omega⟩
    rw [mL_writes_go, if_neg (by decide), if_neg (by decide), if_pos rfl]
    exact hR t
  have g1 : ∀ k' j t, 10 ≤ j + k' → j ≤ 9 → 2 ≤ k' → (c = 103 → j ≤ s ∧ s + 2 ≤ j + k') → mTo (mL_writes_go G F k' 1 Ln l1 l2 (nI a) c (nI s) t (nI j) V) R := by
    intro k'
    induction k' with
    | zero => intro j t _ _ h; omega
    | succ k' ih =>
      intro j t h1 h2 h3 h4
      rw [mL_writes_go, if_neg (by decide), if_pos rfl]
      unfold mL_writes_b1
      refine mTo.ite (fun hc => ?_) (fun _ => g2 _ _ _ _ _ _ (by omega))
      have s6 := hg hc
      obtain ⟨h5, h6⟩ := h4 hc
      refine mTo.le rfl rfl (by omega) (by omega) (fun _ => g2 _ _ _ _ _ _ (by omega)) (fun z => ?_)
      rw [nI_add, show nI s - nI j = nI (s - j) by rw [show s = j + (s - j) by omega, nI_subA, show j + (s - j) - j = s - j by omega]]
      refine mTo.N (T_drawn hL (by rw [nI_toInt (by omega)]; omega) (by rw [nI_toInt (by omega)]; omega)) (fun v _ hv => mTo.lt ?_)
      obtain ⟨v0, v1⟩ := hv
      rw [nI_toInt (by omega)] at v1
      obtain ⟨x, hx⟩ : ∃ x, v = nI x ∧ x < s - j := ⟨v.toInt.toNat, Int32.toInt_inj.mp (by rw [nI_toInt (by omega)]; omega), by omega⟩
      rw [hx.1, nI_add, nI_1]
      refine mTo.ix rfl (show j < 6 by omega) (by decide) (mTo.lt (mTo.ix rfl (show j + x < 6 by omega) (by decide) (mTo.lt ?_)))
      exact ih (j + 1) _ (by omega) (by omega) (by omega) (fun _ => ⟨by omega, by omega⟩)
  have g0 : ∀ k' j t, 20 ≤ j + k' → j ≤ 6 → mTo (mL_writes_go G F k' 0 Ln l1 l2 (nI a) c (nI s) t (nI j) V) R := by
    intro k'
    induction k' with
    | zero => intro j t h1 h2; omega
    | succ k' ih =>
      intro j t h1 h2
      rw [mL_writes_go, if_pos rfl]
      unfold mL_writes_b0
      refine mTo.le (a := 6) rfl rfl (by decide) (by omega) (fun _ => g1 k' 0 t (by omega) (by omega) (by omega) (fun _ => ⟨by omega, by omega⟩)) (fun z => ?_)
      refine mTo.ite (fun hc => mTo.ix rfl z (by decide) (mTo.lt ?_)) (fun _ => ?_)
      · rw [nI_1]
        exact ih (j + 1) _ (by omega) (by omega)
      · rw [nI_add, nI_1]
        exact mTo.N (T_part hL h0 h9 (by rw [nI_toInt (by omega)]; omega)) (fun v _ _ => mTo.ix rfl z (by decide) (mTo.lt (ih (j + 1) _ (by omega) (by omega))))
  exact g0 F 0 _ (by omega) (by omega)
theorem lt_back : ∀ k, k < 12 → ((Int32.toUInt32 (Int64.toInt32 (Int32.toInt64 (nI (ltK k))))) % 65536).toInt32 = nI (ltK k) := by decide
theorem lt_103 : ∀ k, k < 12 → nI (ltK k) = 103 → k = 8 := by decide
theorem i64_32 (x : Int32) : Int64.toInt32 (Int32.toInt64 x) = x := Int32.toInt32_toInt64 x
theorem T_wrs {G : wkG} {F n j a : Nat} {Q : Nat → qT} {l2 : Int32} {Ln : Nat → Nat} {V : mV} {R : Int64 × (Nat → Nat) × mV → Prop} (hL : G.1 9 ≤ 260) (hF : 2 ^ 34 ≤ F) (hI : bST Ln V n Q) (hj : j < n) (hT : Ln 3000 < 5000) (ha : a < 2 ^ 20) (hR : ∀ t, mTo (mL_writes_b2 G F (va_up Ln 3000 (Ln 3000 + 1)) (nI j) l2 t V) R) : mTo (mL_writes G F Ln (nI j) l2 (nI a) V) R := by
  obtain ⟨qa, qb, qc⟩ := hI.1.1.2.2.1 j hj
  have lo1 : ∀ k, k < 12 → 1 ≤ loS k := by decide
  unfold mL_writes
  refine mTo.A (T_kindOf (G := G) (F := F) (Ln := Ln) hI.1.1 hj) (fun v1 L1 V1 _ h1 => ?_)
  cases h1
  refine mTo.lt (mTo.A (T_sizeOf (G := G) (F := F) (Ln := Ln) hI.1.1 hj) (fun v2 L2 V2 _ h2 => ?_))
  cases h2
  refine mTo.lt ?_
  rw [if_neg (fun z => z hT), lt_back _ qb.1, i64_32]
  have := lo1 _ qb.1
  have := qb.2.1
  refine T_wgo hL (by omega) (by omega) qb.s9 ha (fun h => ?_) hR
  have := lt_103 _ qb.1 h
  have := qb.2.2.1
  rw [lt_103 _ qb.1 h] at this
  exact this
end
