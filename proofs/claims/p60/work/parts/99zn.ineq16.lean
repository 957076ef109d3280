/-! THE PURE PART, inequalities: the machine loads the unknowns, the weights. -/
section
def ldM (V : mV) (a : Nat → Nat → Int) (R C e s m : Nat) (b : Int32) (d : Nat → Int32) (W : Nat → Nat → Prop) : Prop := V.fI 4 4 = nI R ∧ V.fI 4 5 = nI C ∧ enQ V e s m b d ∧ (∀ r c, r < R → c ≤ C → W r c → V.rJ (36 + r) c = jO (a (if c = C then C + R else c) r)) ∧ (∀ r c, r < R → c ≤ C → ¬ W r c → V.rJ (36 + r) c = 0) ∧ ∀ c, c ≤ C → V.rJ (36 + R) c = 0
theorem ldM.up {V : mV} {a : Nat → Nat → Int} {R C e s m : Nat} {b : Int32} {d : Nat → Int32} {W W2 : Nat → Nat → Prop} {r0 c0 : Nat} {v : Int64} (h : ldM V a R C e s m b d W) (hr : r0 < R) (hc : c0 < 2 ^ 31) (hv : v = jO (a (if c0 = C then C + R else c0) r0)) (hW : ∀ r c, r < R → c ≤ C → (W2 r c ↔ (r = r0 ∧ c = c0) ∨ W r c)) : ldM (mJ V (36 + r0) (nI c0) v) a R C e s m b d W2 := by
  obtain ⟨m1, m2, q, m3, m4, m5⟩ := h
  refine ⟨m1, m2, q, fun r c a1 a2 w => ?_, fun r c a1 a2 w => ?_, fun c a1 => ?_⟩
  · by_cases e : r = r0
    · subst e
      rw [mJ_at (nI_clamp (n := c0) (by omega))]
      by_cases f : c = c0
      · rw [if_pos f, hv, f]
      · rw [if_neg f]
        exact m3 r c a1 a2 (((hW r c a1 a2).mp w).resolve_left (fun y => f y.2))
    · rw [mJ_no (by omega)]
      exact m3 r c a1 a2 (((hW r c a1 a2).mp w).resolve_left (fun y => e y.1))
  · have nw : ¬ W r c := fun y => w ((hW r c a1 a2).mpr (Or.inr y))
    by_cases e : r = r0
    · subst e
      rw [mJ_at (nI_clamp (n := c0) (by omega)), if_neg (fun f => w ((hW r c a1 a2).mpr (Or.inl ⟨rfl, f⟩)))]
      exact m4 r c a1 a2 nw
    · rw [mJ_no (by omega)]
      exact m4 r c a1 a2 nw
  · rw [mJ_no (by omega)]
    exact m5 c a1
/-- all that is not 0 is laid -/
theorem ldM.fin {V : mV} {a : Nat → Nat → Int} {R C e s m : Nat} {b : Int32} {d : Nat → Int32} {W : Nat → Nat → Prop} (h : ldM V a R C e s m b d W) (hW : ∀ r c, r < R → c ≤ C → ¬ W r c → a (if c = C then C + R else c) r = 0) : rawM V a R C := by
  obtain ⟨m1, m2, q, m3, m4, m5⟩ := h
  refine ⟨m1, m2, fun r c a1 a2 => ?_, m5⟩
  by_cases w : W r c
  · exact m3 r c a1 a2 w
  · rw [m4 r c a1 a2 w, hW r c a1 a2 w]
    rfl
theorem T_loadUnknowns {F e s m : Nat} {b : Int32} {d : Nat → Int32} {V : mV} (hF : 2 ^ 21 ≤ F) (he : 256 ≤ e) (hs : s ≤ 4) (hm : m ≤ 12) (hd : qL d s m b) (hq : enQ V e s m b d) : mTo (mX5_loadUnknowns F e V) (fun p => lpM p.2 (m + 1) (s + (m + 1)) (stS (cU d s m b) (m + 1) (s + (m + 1)))) := by
  have go : ∀ k', (∀ r (V1 : mV), (m + 1 - r) * 20 + 1 ≤ k' → r ≤ m + 1 → ldM V1 (cU d s m b) (m + 1) (s + (m + 1)) e s m b d (fun r' c' => r' < r ∧ (c' < s ∨ c' = s + r' ∨ c' = s + (m + 1))) → mTo (mX5_loadUnknowns_go F k' 0 e (nI r) 0 0 V1) (fun p => lpM p.2 (m + 1) (s + (m + 1)) (stS (cU d s m b) (m + 1) (s + (m + 1))))) ∧ (∀ r u (V1 : mV) (S : Int32), (m + 1 - r - 1) * 20 + 1 + (s - u) + 1 ≤ k' → r < m + 1 → u ≤ s → S = (if (0 : Int32) ≤ lmI d m b r then 1 else -1) → ldM V1 (cU d s m b) (m + 1) (s + (m + 1)) e s m b d (fun r' c' => (r' < r ∧ (c' < s ∨ c' = s + r' ∨ c' = s + (m + 1))) ∨ (r' = r ∧ c' < u)) → mTo (mX5_loadUnknowns_go F k' 1 e (nI r) S (nI u) V1) (fun p => lpM p.2 (m + 1) (s + (m + 1)) (stS (cU d s m b) (m + 1) (s + (m + 1))))) := by
    intro k'
    induction k' with
    | zero => exact ⟨fun r V1 h => by omega, fun r u V1 S h => by omega⟩
    | succ k ih =>
      obtain ⟨ih0, ih1⟩ := ih
      refine ⟨fun r V1 h1 h2 hE => ?_, fun r u V1 S h1 h2 h3 hS hE => ?_⟩
      · obtain ⟨m1, m2, q1, _⟩ := id hE
        rw [mX5_loadUnknowns_go, if_pos rfl]
        unfold mX5_loadUnknowns_b0
        refine mTo.le m1 rfl (by omega) (by omega) (fun z => mTo.W (T_begin (a := cU d s m b) (R := m + 1) (C := s + (m + 1)) (by omega) (by omega) (by omega) (hE.fin (fun r' c' a1 a2 w => ?_))) (fun _ V3 _ q => mTo.ret q)) (fun z => mTo.so (T_limit (by omega) (by omega) q1) ?_)
        · have nw : ¬ (c' < s ∨ c' = s + r' ∨ c' = s + (m + 1)) := fun y => w ⟨by omega, y⟩
          unfold cU
          rw [if_neg (show ¬ c' = s + (m + 1) by omega), if_neg (by omega), if_pos (by omega), if_neg (by omega)]
        · have E2 : ldM V1 (cU d s m b) (m + 1) (s + (m + 1)) e s m b d (fun r' c' => (r' < r ∧ (c' < s ∨ c' = s + r' ∨ c' = s + (m + 1))) ∨ (r' = r ∧ c' < 0)) := by
            obtain ⟨m1, m2, q, m3, m4, m5⟩ := hE
            exact ⟨m1, m2, q, fun r' c' a1 a2 w => m3 r' c' a1 a2 (w.resolve_right (fun y => absurd y.2 (Nat.not_lt_zero _))), fun r' c' a1 a2 w => m4 r' c' a1 a2 (fun y => w (Or.inl y)), m5⟩
          refine mTo.ite (fun w => ?_) (fun w => ?_)
          · exact ih1 r 0 V1 1 (by omega) z (Nat.zero_le _) (if_pos w).symm E2
          · exact ih1 r 0 V1 (-1) (by omega) z (Nat.zero_le _) (if_neg w).symm E2
      · obtain ⟨m1, m2, q1, _⟩ := id hE
        rw [mX5_loadUnknowns_go, if_neg (by decide), if_pos rfl]
        unfold mX5_loadUnknowns_b1
        refine mTo.le q1.1 rfl (by omega) (by omega) (fun z => ?_) (fun z => mTo.ix rfl (by omega) (by omega) (mTo.so (T_times (by omega) (by omega) (by omega) q1) (mTo.ix rfl (by omega) (by omega) (mTo.lt (mTo.lt ?_)))))
        · have eu : u = s := by omega
          subst eu
          rw [q1.1, nI_add]
          refine mTo.ix rfl (by omega) (by omega) (mTo.ix rfl (by omega) (by omega) (mTo.lt (mTo.ix rfl (by omega) (by omega) ?_)))
          rw [nI_clamp (n := r) (by omega)]
          have E1 := hE.up (W2 := fun r' c' => (r' < r ∧ (c' < u ∨ c' = u + r' ∨ c' = u + (m + 1))) ∨ (r' = r ∧ (c' < u ∨ c' = u + r))) (r0 := r) (c0 := u + r) (v := Int32.toInt64 S) h2 (by omega) (by
            rw [(sg32 (x := 0) (by decide) hS).2, if_neg (show ¬ u + r = u + (m + 1) by omega)]
            unfold cU
            rw [if_neg (by omega), if_pos (by omega), if_pos (by omega)]) (fun r' c' a1 a2 => by omega)
          obtain ⟨n1, n2, q2, _⟩ := id E1
          refine mTo.so (T_limit (by omega) (by omega) q2) (mTo.ix n2 (by omega) (by omega) (mTo.lt (mTo.lt ?_)))
          rw [n2, nI_1]
          refine ih0 (r + 1) _ (by omega) (by omega) ?_
          refine E1.up (r0 := r) (c0 := u + (m + 1)) h2 (by omega) ?_ (fun r' c' a1 a2 => by omega)
          rw [(sg32 (lmZ_b (i := r) hd) hS).1, if_pos rfl]
          unfold cU
          rw [if_neg (by omega), if_neg (by omega), if_neg (by omega)]
          rfl
        · rw [nI_clamp (n := r) (by omega), nI_1]
          refine ih1 r (u + 1) _ S (by omega) h2 (by omega) hS ?_
          refine hE.up (r0 := r) (c0 := u) h2 (by omega) ?_ (fun r' c' a1 a2 => by omega)
          have tb := tmZ_b (i := r) hd z
          rw [(sg32 (x := tmI d m r u) (by unfold tmZ at tb; omega) hS).1, if_neg (by omega)]
          unfold cU
          rw [if_pos z]
          rfl
  unfold mX5_loadUnknowns mX5_loadUnknowns_s
  refine mTo.lt (mTo.lt ?_)
  obtain ⟨V2, hV2⟩ : ∃ V2, V2 = mF (mF V 4 4 ((V.fI e 6) + (1 : Int32))) 4 5 (((mF V 4 4 ((V.fI e 6) + (1 : Int32))).fI e 1) + ((mF V 4 4 ((V.fI e 6) + (1 : Int32))).fI 4 4)) := ⟨_, rfl⟩
  rw [← hV2]
  have q2 : enQ V2 e s m b d := by
    obtain ⟨a1, a2, a3, a4⟩ := hq
    rw [hV2]
    exact ⟨by rw [mF_no (Or.inl (by omega)), mF_no (Or.inl (by omega))]; exact a1, by rw [mF_no (Or.inl (by omega)), mF_no (Or.inl (by omega))]; exact a2, by rw [mF_no (Or.inl (by omega)), mF_no (Or.inl (by omega))]; exact a3, a4⟩
  have f4 : V2.fI 4 4 = nI (m + 1) := by
    rw [hV2, mF_no (Or.inr (by decide)), mF_at, hq.2.1, nI_1]
  have f5 : V2.fI 4 5 = nI (s + (m + 1)) := by
    rw [hV2, mF_at, mF_at, mF_no (Or.inl (by omega)), hq.1, hq.2.1, nI_1, nI_add]
  obtain ⟨p, e1, q⟩ := T_clearTable (F := F) (V := V2) hF
  have fr := NX5_clearTable (v := p.1) (V1 := p.2) e1
  refine mTo.W (Q := fun r => r = p) ⟨p, e1, rfl⟩ (fun v V3 _ r => ?_)
  have eV : V3 = p.2 := congrArg Prod.snd r
  rw [eV]
  refine (go F).1 0 p.2 (by omega) (Nat.zero_le _) ⟨?_, ?_, enQ.mv q2 fr (by unfold wX5_clearTable; omega) (by unfold wX5_clearTable; omega), fun r c _ _ w => absurd w.1 (Nat.not_lt_zero _), fun r c a1 a2 _ => q r c (by omega) (by omega), fun c a1 => q (m + 1) c (by omega) (by omega)⟩
  · rw [(fr.1 4 (by unfold wX5_clearTable; omega)).1]
    exact f4
  · rw [(fr.1 4 (by unfold wX5_clearTable; omega)).1]
    exact f5
end
