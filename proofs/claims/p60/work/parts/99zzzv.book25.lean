/-! THE BOOK: a claim is taken away. -/
section
def eqC (V V1 : mV) : Prop := V1.fI = V.fI ∧ V1.fJ = V.fJ ∧ V1.rI = V.rI ∧ V1.rJ = V.rJ
/-- where the claims lie, the one at i taken away -/
def sgC (c i k : Nat) : Nat := if k = c - 1 then i else if i ≤ k ∧ k < c - 1 then k + 1 else k
theorem sgC_inj {c i a b : Nat} (hi : i < c) (e : sgC c i a = sgC c i b) : a = b := by
  unfold sgC at e
  split at e <;> split at e <;> (try split at e) <;> (try split at e) <;> omega
theorem sgC_lt {c i k : Nat} (hi : i < c) (hc : c ≤ 16) (hk : k < 16) : sgC c i k < 16 := by
  unfold sgC
  split
  · omega
  · split <;> omega
theorem T_removeC {F c i : Nat} {V : mV} (hF : 64 ≤ F) (h : V.fI 0 15 = nI c) (hc : c ≤ 16) (hi : i < c) : mTo (mX11_removeClaim F (nI i) V) (fun p => eqC (mF V 0 15 (nI (c - 1))) p.2 ∧ ∀ k, p.2.cl k = V.cl (sgC c i k)) := by
  have ec : nI c - 1 = nI (c - 1) := by
    rw [show c = (c - 1) + 1 by omega, nI_pred, show c - 1 + 1 - 1 = c - 1 by omega]
  have go : ∀ k' t (V1 : mV), c < t + k' + 1 → i ≤ t → t < c → eqC V V1 → (∀ k, V1.cl k = V.cl (if i ≤ k ∧ k < t then k + 1 else k)) → mTo (mX11_removeClaim_go F k' 0 (V.cl i) (nI t) V1) (fun p => eqC (mF V 0 15 (nI (c - 1))) p.2 ∧ ∀ k, p.2.cl k = V.cl (sgC c i k)) := by
    intro k'
    induction k' with
    | zero => intro t V1 h1 h2 h3; omega
    | succ k' ih =>
      intro t V1 h1 h2 h3 h4 h5
      obtain ⟨a1, a2, a3, a4⟩ := id h4
      rw [mX11_removeClaim_go, if_pos rfl]
      unfold mX11_removeClaim_b0
      rw [a1, h, ec]
      refine mTo.le rfl rfl (by omega) (by omega) (fun z => mTo.lt ?_) (fun z => ?_)
      · rw [mF_at]
        refine mTo.ix rfl (show c - 1 < 16 by omega) (by decide) (mTo.lt (mTo.ret ⟨⟨?_, ?_, ?_, ?_⟩, fun k => ?_⟩))
        · show (mF V1 0 15 (nI (c - 1))).fI = (mF V 0 15 (nI (c - 1))).fI
          unfold mF
          rw [a1]
        · exact a2
        · exact a3
        · exact a4
        · rw [nI_clamp (n := c - 1) (by omega)]
          show va_up V1.cl (c - 1) (V.cl i) k = _
          unfold sgC
          by_cases e : k = c - 1
          · rw [e, mUp_eq, if_pos rfl]
          · rw [mUp_ne _ _ e, if_neg e, h5 k, show t = c - 1 by omega]
      · rw [nI_1]
        refine mTo.ix rfl (show t + 1 < 16 by omega) (by decide) (mTo.ix rfl (show t < 16 by omega) (by decide) (mTo.lt (mTo.lt ?_)))
        rw [nI_clamp (n := t) (by omega), nI_clamp (n := t + 1) (by omega)]
        refine ih (t + 1) _ (by omega) (by omega) (by omega) ⟨a1, a2, a3, a4⟩ (fun k => ?_)
        show va_up V1.cl t (V1.cl (t + 1)) k = _
        by_cases e : k = t
        · rw [e, mUp_eq, h5, if_neg (by omega), if_pos (by omega)]
        · rw [mUp_ne _ _ e, h5 k]
          by_cases e2 : i ≤ k ∧ k < t
          · rw [if_pos e2, if_pos (by omega)]
          · rw [if_neg e2, if_neg (by omega)]
  unfold mX11_removeClaim mX11_removeClaim_s
  refine mTo.ix rfl (show i < 16 by omega) (by decide) ?_
  rw [nI_clamp (n := i) (by omega)]
  exact go F i V (by omega) (Nat.le_refl _) hi ⟨rfl, rfl, rfl, rfl⟩ (fun k => by
    rw [if_neg (by omega)])
end
