/-! THE PURE PART, flows: an accepted bar, the whole. -/
section
theorem nI_sub2 (y : Nat) : nI (y + 2) - 2 = nI y := by
  rw [← nI_add, show nI 2 = (2 : Int32) from rfl, Int32.add_sub_cancel]
theorem T_judgeBar {F : Nat} {Ln : Nat → Nat} {V : mV} {e r c m y : Nat} {A B C : Nat → Nat} (hF : 2 ^ 21 ≤ F) (he : 256 ≤ e) (hr : r = 18 ∨ 256 ≤ r) (h10 : m ≤ 10) (hm : V.fI e 6 = nI m) (hz : V.fI e 1 = nI (y + 2)) (hy : y ≤ 5) (hc : V.fI r 1 = nI c) (hl : c ≤ Ln (r + 1)) (hL : Ln (r + 1) ≤ 1024) (hA : ∀ i, i < m → V.rI (e + 1) (5 * i) = nI (A i)) (hB : ∀ i, i < m → V.rI (e + 1) (5 * i + 1) = nI (B i)) (hC : ∀ i, i < m → V.rI (e + 1) (5 * i + 2) = nI (C i)) : mTo (mX7_judgeBar F Ln e r V) (fun p => p.1 = 0 → ∃ X : Nat → Bool, X 0 = true ∧ X (y + 1) = false ∧ ¬ V.fI e 8 ≤ nI (nsum (barW X A B C) m)) := by
  unfold mX7_judgeBar mX7_judgeBar_s
  refine mTo.W (T_loadFlows (by omega) he h10 hm) (fun v1 V1 _ q => ?_)
  obtain ⟨q8, q9, q3, qa⟩ := q
  have q8 : V1.fI 2 8 = V.fI e 1 := q8
  have q9 : V1.fI 2 9 = nI m := q9
  have s1 : V1.fI r = V.fI r := (qa.1 r (by unfold wX7_loadFlows; omega)).1
  have s2 : V1.rI (r + 1) = V.rI (r + 1) := (qa.1 (r + 1) (by unfold wX7_loadFlows; omega)).2.2.1
  have s3 : V1.fI e = V.fI e := (qa.1 e (by unfold wX7_loadFlows; omega)).1
  have hc1 : V1.fI r 1 = nI c := by rw [s1, hc]
  have no : ∀ {P : Prop}, (1 : Int32) = 0 → P := fun z => absurd z (by decide)
  refine mTo.ite (fun _ => mTo.ret (fun z => no z)) (fun h0 => ?_)
  have hc0 : 0 < c := by
    rcases Nat.eq_zero_or_pos c with z | z
    · subst z
      exact absurd hc1 h0
    · exact z
  refine mTo.N (T_at (j := 0) hc1 hl hL (by decide)) (fun v2 _ q2 => mTo.ite (fun e2 => ?_) (fun _ => mTo.ret (fun z => no z)))
  refine mTo.N (T_isRising (j := 0) (by omega) hc1 hl hL (by decide)) (fun v3 _ q3' => mTo.ite (fun _ => mTo.ret (fun z => no z)) (fun e3 => ?_))
  refine mTo.N (T_liesWithin (j := 0) (by omega) hc1 hl hL (by decide)) (fun v4 _ q4 => mTo.ite (fun _ => mTo.ret (fun z => no z)) (fun e4 => ?_))
  have ris : ∀ i, i + 1 < c → V1.rI (r + 1) i < V1.rI (r + 1) (i + 1) := by
    rcases q3' with ⟨_, q⟩ | ⟨q, _⟩
    · exact fun i hi => q i (Nat.zero_le _) hi
    · exact absurd q e3
  have wit : ∀ i, i < c → V1.rI (r + 1) i ≤ V1.fI 2 8 - 2 := by
    rcases q4 with ⟨_, q⟩ | ⟨q, _⟩
    · exact fun i hi => (q i (Nat.zero_le _) hi).2
    · exact absurd q e4
  rw [if_pos hc0] at q2
  refine (T_judgeBar_go (A := A) (B := B) (C := C) (by omega) hc1 hl hL ris h10 q9 (fun i hi => ((q3 i hi).1).trans (hA i hi)) (fun i hi => ((q3 i hi).2.1).trans (hB i hi)) (fun i hi => ((q3 i hi).2.2).trans (hC i hi)) m F 0 (by omega) (by omega) (Nat.zero_le _)).mono (fun p hp hp0 => ?_)
  refine ⟨rowHas V1 r c, rowHas_iff.mpr ⟨0, hc0, q2.symm.trans e2⟩, ?_, ?_⟩
  · cases hh : rowHas V1 r c (y + 1) with
    | false => rfl
    | true =>
      obtain ⟨i, h1, h2⟩ := rowHas_iff.mp hh
      have := wit i h1
      rw [h2, q8, hz, nI_sub2, nI_leI (by omega) (by omega)] at this
      omega
  · have := hp.2 hp0
    rw [s3] at this
    exact this
end
