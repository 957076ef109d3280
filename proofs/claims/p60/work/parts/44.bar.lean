/-! THE PURE PART, flows: what an accepted bar says. -/
section
def nsum (w : Nat → Nat) : Nat → Nat
  | 0 => 0
  | n + 1 => nsum w n + w n
theorem nsum_le {w : Nat → Nat} {M : Nat} : ∀ n, (∀ i, i < n → w i ≤ M) → nsum w n ≤ n * M
  | 0, _ => Nat.zero_le _
  | n + 1, h => by
    have h1 := nsum_le n (fun i hi => h i (by omega))
    have h2 := h n (by omega)
    rw [nsum, Nat.succ_mul]
    omega
/-- the numbers of a row, as a set -/
def rowHas (V : mV) (r c v : Nat) : Bool := (List.range c).any fun i => decide (V.rI (r + 1) i = nI v)
theorem rowHas_iff {V : mV} {r c v : Nat} : rowHas V r c v = true ↔ ∃ i, i < c ∧ V.rI (r + 1) i = nI v := by
  unfold rowHas
  rw [List.any_eq_true]
  constructor
  · rintro ⟨i, h1, h2⟩
    exact ⟨i, List.mem_range.mp h1, of_decide_eq_true h2⟩
  · rintro ⟨i, h1, h2⟩
    exact ⟨i, List.mem_range.mpr h1, decide_eq_true h2⟩
theorem T_has {F : Nat} {Ln : Nat → Nat} {V : mV} {r c v : Nat} {x : Int32} (hF : 64 ≤ F) (hc : V.fI r 1 = nI c) (hl : c ≤ Ln (r + 1)) (hL : Ln (r + 1) ≤ 1024) (h : ∀ i, i + 1 < c → V.rI (r + 1) i < V.rI (r + 1) (i + 1)) (hx : x = nI v) : mTo (mX9_holds F Ln r (0 : Int32) x V) (fun w => (w = 0 ↔ rowHas V r c v = false)) := by
  subst hx
  refine (T_holds hF hc hl hL h).mono (fun w hw => ?_)
  rcases hw with ⟨e, q⟩ | ⟨e, q⟩
  · subst e
    have := rowHas_iff.mpr q
    rw [this]
    exact ⟨fun z => absurd z (by decide), fun z => absurd z (by decide)⟩
  · subst e
    refine ⟨fun _ => ?_, fun _ => rfl⟩
    cases hh : rowHas V r c v with
    | false => rfl
    | true =>
      obtain ⟨i, h1, h2⟩ := rowHas_iff.mp hh
      exact absurd h2 (q i h1)
def barW (X : Nat → Bool) (A B C : Nat → Nat) (i : Nat) : Nat := if X (A i) = true ∧ X (B i) = false then C i else 0
theorem T_judgeBar_go {F : Nat} {Ln : Nat → Nat} {V : mV} {e r c m : Nat} {A B C : Nat → Nat} (hF : 64 ≤ F) (hc : V.fI r 1 = nI c) (hl : c ≤ Ln (r + 1)) (hL : Ln (r + 1) ≤ 1024) (hri : ∀ i, i + 1 < c → V.rI (r + 1) i < V.rI (r + 1) (i + 1)) (h10 : m ≤ 10) (h9 : V.fI 2 9 = nI m) (hA : ∀ i, i < m → V.rI 21 i = nI (A i)) (hB : ∀ i, i < m → V.rI 22 i = nI (B i)) (hC : ∀ i, i < m → V.rI 23 i = nI (C i)) : ∀ n k' j : Nat, n < k' → m ≤ j + n → j ≤ m → mTo (mX7_judgeBar_go F k' 0 Ln e r (nI (nsum (barW (rowHas V r c) A B C) j)) (nI j) V) (fun p => p.2 = V ∧ (p.1 = 0 ↔ ¬ V.fI e 8 ≤ nI (nsum (barW (rowHas V r c) A B C) m))) := by
  intro n
  induction n with
  | zero =>
    intro k' j hk hn hj
    obtain ⟨k, rfl⟩ : ∃ k, k' = k + 1 := ⟨k' - 1, by omega⟩
    have hjm : j = m := by omega
    subst hjm
    rw [mX7_judgeBar_go, if_pos rfl]
    unfold mX7_judgeBar_b0
    rw [h9, if_pos ((nI_leI (by omega) (by omega)).mpr (Nat.le_refl _))]
    exact mTo.ite (fun h => mTo.ret ⟨rfl, fun z => absurd (show (2 : Int32) = 0 from z) (by decide), fun z => absurd h z⟩) (fun h => mTo.ret ⟨rfl, fun _ => h, fun _ => rfl⟩)
  | succ n ih =>
    intro k' j hk hn hj
    obtain ⟨k, rfl⟩ : ∃ k, k' = k + 1 := ⟨k' - 1, by omega⟩
    rw [mX7_judgeBar_go, if_pos rfl]
    unfold mX7_judgeBar_b0
    rw [h9]
    refine mTo.ite (fun h => ?_) (fun h => ?_)
    · have := (nI_leI (a := m) (b := j) (by omega) (by omega)).mp h
      have hjm : j = m := by omega
      subst hjm
      exact mTo.ite (fun h => mTo.ret ⟨rfl, fun z => absurd (show (2 : Int32) = 0 from z) (by decide), fun z => absurd h z⟩) (fun h => mTo.ret ⟨rfl, fun _ => h, fun _ => rfl⟩)
    · have hjm : j < m := Nat.lt_of_not_le fun z => h ((nI_leI (by omega) (by omega)).mpr z)
      have hin : ¬ (nI j < 0 ∨ 10 ≤ (nI j).toNatClampNeg) := nI_in (by omega) (by omega)
      have cl : (nI j).toNatClampNeg = j := nI_clamp (by omega)
      have g := ih k (j + 1) (by omega) (by omega) (by omega)
      rw [nsum] at g
      refine mTo.gd hin (mTo.N (T_has hF hc hl hL hri (by rw [cl]; exact hA j hjm)) (fun v4 _ q4 => mTo.ite (fun e4 => mTo.lt ?_) (fun e4 => ?_)))
      · rw [nI_1]
        have w0 : barW (rowHas V r c) A B C j = 0 := if_neg (fun z => by rw [q4.mp e4] at z; exact absurd z.1 (by decide))
        rw [w0, Nat.add_zero] at g
        exact g
      · refine mTo.gd hin (mTo.N (T_has hF hc hl hL hri (by rw [cl]; exact hB j hjm)) (fun v12 _ q12 => mTo.ite (fun e12 => mTo.gd hin (mTo.lt (mTo.lt ?_))) (fun e12 => mTo.lt ?_)))
        · have hx : rowHas V r c (A j) = true := by
            cases hh : rowHas V r c (A j) with
            | true => rfl
            | false => exact absurd (q4.mpr hh) e4
          have w0 : barW (rowHas V r c) A B C j = C j := if_pos ⟨hx, q12.mp e12⟩
          rw [w0] at g
          rw [nI_1, cl, hC j hjm, nI_add]
          exact g
        · rw [nI_1]
          have w0 : barW (rowHas V r c) A B C j = 0 := if_neg (fun z => e12 (q12.mpr z.2))
          rw [w0, Nat.add_zero] at g
          exact g
end
