/-! THE PURE PART, flows: an accepted flow, the whole. -/
section
theorem T_judgeFlow {F : Nat} {Ln : Nat → Nat} {V : mV} {e r c m y : Nat} {A B C : Nat → Nat} (hF : 2 ^ 22 ≤ F) (he : 256 ≤ e) (hr : r = 18 ∨ 256 ≤ r) (h10 : m ≤ 10) (hm : V.fI e 6 = nI m) (hz : V.fI e 1 = nI (y + 2)) (hy : y ≤ 5) (hc : V.fI r 1 = nI c) (hl : c ≤ Ln (r + 1)) (hL : Ln (r + 1) ≤ 1024) (hA : ∀ i, i < m → V.rI (e + 1) (5 * i) = nI (A i)) (hB : ∀ i, i < m → V.rI (e + 1) (5 * i + 1) = nI (B i)) (hC : ∀ i, i < m → V.rI (e + 1) (5 * i + 2) = nI (C i)) (hA7 : ∀ i, i < m → A i < 7) (hB7 : ∀ i, i < m → B i < 7) (hC7 : ∀ i, i < m → C i ≤ 1000) : mTo (mX7_judgeFlow F Ln e r V) (fun p => p.1 = 0 → ∃ f : Nat → Int, (∀ i, i < m → 0 ≤ f i ∧ f i ≤ C i) ∧ (∀ v, 1 ≤ v → v < y + 1 → exs A B f v m = 0) ∧ exs A B f 0 m = (V.fI e 8).toInt) := by
  unfold mX7_judgeFlow mX7_judgeFlow_s
  refine mTo.W (T_loadFlows (by omega) he h10 hm) (fun v1 V1 _ q => ?_)
  obtain ⟨q8, q9, q3, qa⟩ := q
  have q8 : V1.fI 2 8 = V.fI e 1 := q8
  have q9 : V1.fI 2 9 = nI m := q9
  have s1 : V1.fI r = V.fI r := (qa.1 r (by unfold wX7_loadFlows; omega)).1
  have s2 : V1.rI (r + 1) = V.rI (r + 1) := (qa.1 (r + 1) (by unfold wX7_loadFlows; omega)).2.2.1
  have s3 : V1.fI e = V.fI e := (qa.1 e (by unfold wX7_loadFlows; omega)).1
  refine mTo.ite (fun hcm => ?_) (fun _ => mTo.ret (fun z => absurd (show (1 : Int32) = 0 from z) (by decide)))
  rw [s1, hc, q9] at hcm
  have hcm : c = m := (nI_eq (by omega) (by omega)).mp hcm
  subst hcm
  refine mTo.W (T_fill (a := 26) (N := 7) (by omega) (by decide) (by decide)) (fun v2 V2 _ qf => ?_)
  obtain ⟨z0, qb⟩ := qf
  have z0 : ∀ i, i < 7 → V2.rI 26 i = 0 := z0
  have w : ∀ i, i ≠ 26 → V2.fI i = V1.fI i ∧ V2.rI i = V1.rI i := fun i hi => by
    have := qb.1 i (by unfold wJ7_fill_53178; omega)
    exact ⟨this.1, this.2.2.1⟩
  refine (T_judgeFlow_0 (A := A) (B := B) (C := C) (f := fun i => (V.rI (r + 1) i).toInt) (y := y) (by omega) hr hy h10 hl hL hA7 hB7 hC7 c F 0 (by omega) (by omega) (Nat.zero_le _) V2 ?_ ?_ ?_ ?_ ?_ ?_ ?_ ?_ (fun i hi => absurd hi (Nat.not_lt_zero i))).mono (fun p hp z => ?_)
  · rw [(w r (by omega)).1, s1, hc]
  · rw [(w 2 (by decide)).1, q8, hz]
  · rw [(w 2 (by decide)).1, q9]
  · exact fun i hi => by rw [(w 21 (by decide)).2, (q3 i hi).1, hA i hi]
  · exact fun i hi => by rw [(w 22 (by decide)).2, (q3 i hi).2.1, hB i hi]
  · exact fun i hi => by rw [(w 23 (by decide)).2, (q3 i hi).2.2, hC i hi]
  · exact fun i hi => by rw [(w (r + 1) (by omega)).2, s2]
  · exact fun v hv => by
      rw [z0 v hv, exs]
      rfl
  · obtain ⟨a, b, d⟩ := hp z
    refine ⟨_, a, b, ?_⟩
    rw [d, (w e (by omega)).1, s3]
end
