/-! THE PURE PART, inequalities: the machine loads the weights. -/
section
theorem T_loadWeights {F e s m : Nat} {b : Int32} {d : Nat → Int32} {V : mV} (hF : 2 ^ 21 ≤ F) (he : 256 ≤ e) (hs : s ≤ 4) (hm : m ≤ 12) (hd : qL d s m b) (hq : enQ V e s m b d) : mTo (mX5_loadWeights F e V) (fun p => lpM p.2 (s + 1) (m + 1 + s) (stS (cW d s m b) (s + 1) (m + 1 + s))) := by
  have go2 : ∀ k' u (V1 : mV), s - u + 1 ≤ k' → u ≤ s → ldM V1 (cW d s m b) (s + 1) (m + 1 + s) e s m b d (fun r' c' => c' < m + 1 ∨ (r' < u ∧ c' = m + 1 + r')) → mTo (mX5_loadWeights_go F k' 2 e (nI (m + 1)) (nI u) 0 V1) (fun p => lpM p.2 (s + 1) (m + 1 + s) (stS (cW d s m b) (s + 1) (m + 1 + s))) := by
    intro k'
    induction k' with
    | zero => exact fun u V1 h => by omega
    | succ k ih =>
      intro u V1 h1 h2 hE
      obtain ⟨m1, m2, q1, _⟩ := id hE
      rw [mX5_loadWeights_go, if_neg (by decide), if_neg (by decide), if_pos rfl]
      unfold mX5_loadWeights_b2
      refine mTo.le q1.1 rfl (by omega) (by omega) (fun z => mTo.ix q1.1 (by omega) (by omega) (mTo.ix m2 (by omega) (by omega) (mTo.lt ?_))) (fun z => mTo.ix rfl (by omega) (by omega) ?_)
      · have eu : u = s := by omega
        subst eu
        rw [q1.1, m2, nI_clamp (n := u) (by omega)]
        have E1 := hE.up (W2 := fun r' c' => c' < m + 1 ∨ (r' < u ∧ c' = m + 1 + r') ∨ (r' = u ∧ c' = m + 1 + u)) (r0 := u) (c0 := m + 1 + u) (v := 1) (by omega) (by omega) (by
          rw [if_pos rfl]
          unfold cW
          rw [if_neg (by omega), if_neg (by omega), if_neg (by omega), if_pos rfl]
          rfl) (fun r' c' a1 a2 => by omega)
        refine mTo.W (T_begin (a := cW d u m b) (R := u + 1) (C := m + 1 + u) (by omega) (by omega) (by omega) (E1.fin (fun r' c' a1 a2 w => ?_))) (fun _ V3 _ q => mTo.ret q)
        by_cases f : c' = m + 1 + u
        · rw [if_pos f]
          unfold cW
          rw [if_neg (by omega), if_neg (by omega), if_neg (by omega), if_neg (by omega)]
        · rw [if_neg f]
          unfold cW
          rw [if_neg (by omega), if_pos (by omega), if_neg (by omega)]
      · rw [nI_clamp (n := u) (by omega), nI_add, nI_1]
        refine mTo.ix rfl (by omega) (by omega) (mTo.lt (mTo.lt ?_))
        refine ih (u + 1) _ (by omega) (by omega) ?_
        refine hE.up (r0 := u) (c0 := m + 1 + u) (by omega) (by omega) ?_ (fun r' c' a1 a2 => by omega)
        rw [if_neg (by omega)]
        unfold cW
        rw [if_neg (by omega), if_pos (by omega), if_pos (by omega)]
        rfl
  have go : ∀ k', (∀ i (V1 : mV), (m + 1 - i) * 20 + 20 ≤ k' → i ≤ m + 1 → ldM V1 (cW d s m b) (s + 1) (m + 1 + s) e s m b d (fun _ c' => c' < i) → mTo (mX5_loadWeights_go F k' 0 e (nI (m + 1)) (nI i) 0 V1) (fun p => lpM p.2 (s + 1) (m + 1 + s) (stS (cW d s m b) (s + 1) (m + 1 + s)))) ∧ (∀ i u (V1 : mV), (m + 1 - i - 1) * 20 + 20 + (s - u) + 1 ≤ k' → i < m + 1 → u ≤ s → ldM V1 (cW d s m b) (s + 1) (m + 1 + s) e s m b d (fun r' c' => c' < i ∨ (c' = i ∧ r' < u)) → mTo (mX5_loadWeights_go F k' 1 e (nI (m + 1)) (nI i) (nI u) V1) (fun p => lpM p.2 (s + 1) (m + 1 + s) (stS (cW d s m b) (s + 1) (m + 1 + s)))) := by
    intro k'
    induction k' with
    | zero => exact ⟨fun i V1 h => by omega, fun i u V1 h => by omega⟩
    | succ k ih =>
      obtain ⟨ih0, ih1⟩ := ih
      refine ⟨fun i V1 h1 h2 hE => ?_, fun i u V1 h1 h2 h3 hE => ?_⟩
      · rw [mX5_loadWeights_go, if_pos rfl]
        unfold mX5_loadWeights_b0
        refine mTo.le rfl rfl (by omega) (by omega) (fun z => ?_) (fun z => ?_)
        · refine go2 k 0 V1 (by omega) (Nat.zero_le _) ?_
          obtain ⟨m1, m2, q, m3, m4, m5⟩ := hE
          exact ⟨m1, m2, q, fun r' c' a1 a2 w => m3 r' c' a1 a2 (by rcases w with w | w <;> omega), fun r' c' a1 a2 w => m4 r' c' a1 a2 (fun y => w (Or.inl (by omega))), m5⟩
        · refine ih1 i 0 V1 (by omega) z (Nat.zero_le _) ?_
          obtain ⟨m1, m2, q, m3, m4, m5⟩ := hE
          exact ⟨m1, m2, q, fun r' c' a1 a2 w => m3 r' c' a1 a2 (w.resolve_right (fun y => absurd y.2 (Nat.not_lt_zero _))), fun r' c' a1 a2 w => m4 r' c' a1 a2 (fun y => w (Or.inl y)), m5⟩
      · obtain ⟨m1, m2, q1, _⟩ := id hE
        rw [mX5_loadWeights_go, if_neg (by decide), if_pos rfl]
        unfold mX5_loadWeights_b1
        refine mTo.le q1.1 rfl (by omega) (by omega) (fun z => mTo.ix q1.1 (by omega) (by omega) (mTo.so (T_limit (by omega) (by omega) q1) (mTo.ix rfl (by omega) (by omega) (mTo.lt (mTo.lt ?_))))) (fun z => mTo.ix rfl (by omega) (by omega) (mTo.so (T_times (by omega) (by omega) (by omega) q1) (mTo.ix rfl (by omega) (by omega) (mTo.lt (mTo.lt ?_)))))
        · have eu : u = s := by omega
          subst eu
          rw [q1.1, nI_clamp (n := u) (by omega), nI_1]
          refine ih0 (i + 1) _ (by omega) (by omega) ?_
          refine hE.up (r0 := u) (c0 := i) (by omega) (by omega) ?_ (fun r' c' a1 a2 => by omega)
          have lb := lmZ_b (i := i) hd
          rw [if_neg (by omega)]
          unfold cW
          rw [if_pos h2, if_pos rfl]
          unfold lmZ at lb ⊢
          rw [jO_32, Int32.toInt_neg, bm32 (by omega) (by omega)]
        · rw [nI_clamp (n := u) (by omega), nI_1]
          refine ih1 i (u + 1) _ (by omega) h2 (by omega) ?_
          refine hE.up (r0 := u) (c0 := i) (by omega) (by omega) ?_ (fun r' c' a1 a2 => by omega)
          rw [if_neg (by omega)]
          unfold cW
          rw [if_pos h2, if_neg (by omega), jO_32]
          rfl
  unfold mX5_loadWeights mX5_loadWeights_s
  refine mTo.lt (mTo.lt (mTo.lt ?_))
  rw [hq.2.1, nI_1]
  obtain ⟨V2, hV2⟩ : ∃ V2, V2 = mF (mF V 4 4 ((V.fI e 1) + (1 : Int32))) 4 5 ((nI (m + 1)) + ((mF V 4 4 ((V.fI e 1) + (1 : Int32))).fI e 1)) := ⟨_, rfl⟩
  rw [← hV2]
  have q2 : enQ V2 e s m b d := by
    obtain ⟨a1, a2, a3, a4⟩ := hq
    rw [hV2]
    exact ⟨by rw [mF_no (Or.inl (by omega)), mF_no (Or.inl (by omega))]; exact a1, by rw [mF_no (Or.inl (by omega)), mF_no (Or.inl (by omega))]; exact a2, by rw [mF_no (Or.inl (by omega)), mF_no (Or.inl (by omega))]; exact a3, a4⟩
  have f4 : V2.fI 4 4 = nI (s + 1) := by
    rw [hV2, mF_no (Or.inr (by decide)), mF_at, hq.1, nI_1]
  have f5 : V2.fI 4 5 = nI (m + 1 + s) := by
    rw [hV2, mF_at, mF_no (Or.inl (by omega)), hq.1, nI_add]
  obtain ⟨p, e1, q⟩ := T_clearTable (F := F) (V := V2) hF
  have fr := NX5_clearTable (v := p.1) (V1 := p.2) e1
  refine mTo.W (Q := fun r => r = p) ⟨p, e1, rfl⟩ (fun v V3 _ r => ?_)
  have eV : V3 = p.2 := congrArg Prod.snd r
  rw [eV]
  refine (go F).1 0 p.2 (by omega) (Nat.zero_le _) ⟨?_, ?_, enQ.mv q2 fr (by unfold wX5_clearTable; omega) (by unfold wX5_clearTable; omega), fun r c _ _ w => absurd w (Nat.not_lt_zero _), fun r c a1 a2 _ => q r c (by omega) (by omega), fun c a1 => q (s + 1) c (by omega) (by omega)⟩
  · rw [(fr.1 4 (by unfold wX5_clearTable; omega)).1]
    exact f4
  · rw [(fr.1 4 (by unfold wX5_clearTable; omega)).1]
    exact f5
end
