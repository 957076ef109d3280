/-! THE PURE PART, flows: what is loaded, what the two judges have read when they accept. -/
section
theorem T_X3_c {F : Nat} {V : mV} {e m j k : Nat} {kx : Int32} (hx : kx = nI k) (hm : V.fI e 6 = nI m) (h16 : m ≤ 16) (hj : j < 2 ^ 20) (hk : k < 5) : mTo (mX3_at F e (nI j) kx V) (fun v => v = if j < m then V.rI (e + 1) (5 * j + k) else 0) := by
  subst hx
  exact T_X3_at hm h16 hj hk
theorem T_loadFlows_go {F e m : Nat} (he : 256 ≤ e) (h10 : m ≤ 10) : ∀ n k' j : Nat, n < k' → m ≤ j + n → j ≤ m → ∀ V : mV, V.fI e 6 = nI m → V.fI 2 9 = nI m → mTo (mX7_loadFlows_go F k' 0 e (nI j) V) (fun p => (∀ i, i < j → p.2.rI 21 i = V.rI 21 i ∧ p.2.rI 22 i = V.rI 22 i ∧ p.2.rI 23 i = V.rI 23 i) ∧ ∀ i, j ≤ i → i < m → p.2.rI 21 i = V.rI (e + 1) (5 * i) ∧ p.2.rI 22 i = V.rI (e + 1) (5 * i + 1) ∧ p.2.rI 23 i = V.rI (e + 1) (5 * i + 2)) := by
  intro n
  induction n with
  | zero =>
    intro k' j hk hn hj V hm h9
    obtain ⟨k, rfl⟩ : ∃ k, k' = k + 1 := ⟨k' - 1, by omega⟩
    rw [mX7_loadFlows_go, if_pos rfl]
    unfold mX7_loadFlows_b0
    rw [h9, if_pos ((nI_leI (by omega) (by omega)).mpr (by omega))]
    exact mTo.ret ⟨fun i hi => ⟨rfl, rfl, rfl⟩, fun i h1 h2 => by omega⟩
  | succ n ih =>
    intro k' j hk hn hj V hm h9
    obtain ⟨k, rfl⟩ : ∃ k, k' = k + 1 := ⟨k' - 1, by omega⟩
    rw [mX7_loadFlows_go, if_pos rfl]
    unfold mX7_loadFlows_b0
    rw [h9]
    refine mTo.ite (fun h => ?_) (fun h => ?_)
    · have := (nI_leI (a := m) (b := j) (by omega) (by omega)).mp h
      exact mTo.ret ⟨fun i hi => ⟨rfl, rfl, rfl⟩, fun i h1 h2 => by omega⟩
    · have hjm : j < m := Nat.lt_of_not_le fun z => h ((nI_leI (by omega) (by omega)).mpr z)
      have hin : ¬ (nI j < 0 ∨ 10 ≤ (nI j).toNatClampNeg) := nI_in (by omega) (by omega)
      refine mTo.N (T_X3_c (k := 0) rfl hm (by omega) (by omega) (by omega)) (fun v2 _ q2 => mTo.gd hin (mTo.lt ?_))
      refine mTo.N (T_X3_c (k := 1) (V := mI V 21 (nI j) v2) rfl hm (by omega) (by omega) (by omega)) (fun v9 _ q9 => mTo.gd hin (mTo.lt ?_))
      refine mTo.N (T_X3_c (k := 2) (V := mI (mI V 21 (nI j) v2) 22 (nI j) v9) rfl hm (by omega) (by omega) (by omega)) (fun v16 _ q16 => mTo.gd hin (mTo.lt (mTo.lt ?_)))
      rw [nI_1]
      rw [if_pos hjm] at q2 q9 q16
      rw [mI_no (show e + 1 ≠ 21 by omega)] at q9
      rw [mI_no (show e + 1 ≠ 22 by omega), mI_no (show e + 1 ≠ 21 by omega)] at q16
      have cl : (nI j).toNatClampNeg = j := nI_clamp (by omega)
      have r21 : ∀ i, (mI (mI (mI V 21 (nI j) v2) 22 (nI j) v9) 23 (nI j) v16).rI 21 i = if i = j then v2 else V.rI 21 i := fun i => by
        rw [mI_no (by decide), mI_no (by decide), mI_at cl]
      have r22 : ∀ i, (mI (mI (mI V 21 (nI j) v2) 22 (nI j) v9) 23 (nI j) v16).rI 22 i = if i = j then v9 else V.rI 22 i := fun i => by
        rw [mI_no (by decide), mI_at cl, mI_no (by decide)]
      have r23 : ∀ i, (mI (mI (mI V 21 (nI j) v2) 22 (nI j) v9) 23 (nI j) v16).rI 23 i = if i = j then v16 else V.rI 23 i := fun i => by
        rw [mI_at cl, mI_no (by decide), mI_no (by decide)]
      have re : (mI (mI (mI V 21 (nI j) v2) 22 (nI j) v9) 23 (nI j) v16).rI (e + 1) = V.rI (e + 1) := by
        rw [mI_no (by omega), mI_no (by omega), mI_no (by omega)]
      refine (ih k (j + 1) (by omega) (by omega) (by omega) (mI (mI (mI V 21 (nI j) v2) 22 (nI j) v9) 23 (nI j) v16) hm h9).mono (fun p hp => ?_)
      obtain ⟨p1, p2⟩ := hp
      have atj := p1 j (by omega)
      rw [r21, r22, r23, if_pos rfl, if_pos rfl, if_pos rfl] at atj
      refine ⟨fun i hi => ?_, fun i h1 h2 => ?_⟩
      · obtain ⟨a, b, c⟩ := p1 i (by omega)
        rw [r21, if_neg (by omega)] at a
        rw [r22, if_neg (by omega)] at b
        rw [r23, if_neg (by omega)] at c
        exact ⟨a, b, c⟩
      · by_cases hi : i = j
        · subst hi
          exact ⟨atj.1.trans q2, atj.2.1.trans q9, atj.2.2.trans q16⟩
        · have := p2 i (by omega) h2
          rw [re] at this
          exact this
theorem T_loadFlows {F e m : Nat} {V : mV} (hF : 2 ^ 10 ≤ F) (he : 256 ≤ e) (h10 : m ≤ 10) (hm : V.fI e 6 = nI m) : mTo (mX7_loadFlows F e V) (fun p => p.2.fI 2 8 = V.fI e 1 ∧ p.2.fI 2 9 = nI m ∧ (∀ i, i < m → p.2.rI 21 i = V.rI (e + 1) (5 * i) ∧ p.2.rI 22 i = V.rI (e + 1) (5 * i + 1) ∧ p.2.rI 23 i = V.rI (e + 1) (5 * i + 2)) ∧ mAv (wX7_loadFlows e) V p.2) := by
  have h1 : (mF V 2 8 (V.fI e 1)).fI e 6 = nI m := by rw [mF_no (Or.inl (by omega)), hm]
  have h2 : (mF (mF V 2 8 (V.fI e 1)) 2 9 ((mF V 2 8 (V.fI e 1)).fI e 6)).fI e 6 = nI m := by rw [mF_no (Or.inl (by omega)), h1]
  have h3 : (mF (mF V 2 8 (V.fI e 1)) 2 9 ((mF V 2 8 (V.fI e 1)).fI e 6)).fI 2 9 = nI m := by rw [mF_at, h1]
  have h4 : (mF (mF V 2 8 (V.fI e 1)) 2 9 ((mF V 2 8 (V.fI e 1)).fI e 6)).fI 2 8 = V.fI e 1 := by rw [mF_no (Or.inr (by decide)), mF_at]
  obtain ⟨p, e1, q1, q2⟩ := T_loadFlows_go (F := F) he h10 m F 0 (by omega) (by omega) (by omega) _ h2 h3
  have e2 : mX7_loadFlows F e V = some p := by
    unfold mX7_loadFlows mX7_loadFlows_s mLt
    exact e1
  have g := ((NX7_loadFlows_go (v := p.1) (V1 := p.2) F _ _ _ e1).1 2 (by unfold wX7_loadFlows_0; omega)).1
  refine ⟨p, e2, ?_, ?_, fun i hi => ?_, NX7_loadFlows (v := p.1) e2⟩
  · rw [g, h4]
  · rw [g, h3]
  · exact q2 i (Nat.zero_le _) hi
end
