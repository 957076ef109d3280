/-! THE PURE PART, flows: the first half of an accepted flow. -/
section
theorem i32add {x y : Int32} (h1 : -2147483648 ≤ x.toInt + y.toInt) (h2 : x.toInt + y.toInt < 2147483648) : (x + y).toInt = x.toInt + y.toInt := by
  rw [Int32.toInt_add]
  simp only [Int.bmod]
  split <;> omega
theorem i32sub {x y : Int32} (h1 : -2147483648 ≤ x.toInt - y.toInt) (h2 : x.toInt - y.toInt < 2147483648) : (x - y).toInt = x.toInt - y.toInt := by
  rw [Int32.toInt_sub]
  simp only [Int.bmod]
  split <;> omega
/-- what a node has let go more than it has got, by the first items -/
def exs (A B : Nat → Nat) (f : Nat → Int) (v : Nat) : Nat → Int
  | 0 => 0
  | j + 1 => exs A B f v j + (if A j = v then f j else 0) - (if B j = v then f j else 0)
theorem exs_b {A B : Nat → Nat} {f : Nat → Int} {v : Nat} : ∀ j : Nat, (∀ i, i < j → 0 ≤ f i ∧ f i ≤ 1000) → -(1000 * (j : Int)) ≤ exs A B f v j ∧ exs A B f v j ≤ 1000 * (j : Int)
  | 0, _ => by
    rw [exs]
    omega
  | j + 1, h => by
    have h1 := exs_b (A := A) (B := B) (v := v) j (fun i hi => h i (by omega))
    have h2 := h j (by omega)
    rw [exs]
    by_cases a : A j = v <;> by_cases b : B j = v <;> simp only [a, b, if_true, if_false] <;> omega
theorem T_judgeFlow_0 {F : Nat} {Ln : Nat → Nat} {e r m y : Nat} {A B C : Nat → Nat} {f : Nat → Int} (hF : 64 ≤ F) (hr : 256 ≤ r) (hy : y ≤ 5) (h10 : m ≤ 10) (hl : m ≤ Ln (r + 1)) (hL : Ln (r + 1) ≤ 1024) (hA7 : ∀ i, i < m → A i < 7) (hB7 : ∀ i, i < m → B i < 7) (hC7 : ∀ i, i < m → C i ≤ 1000) : ∀ n k' j : Nat, n + 16 < k' → m ≤ j + n → j ≤ m → ∀ V : mV, V.fI r 1 = nI m → V.fI 2 8 = nI (y + 2) → V.fI 2 9 = nI m → (∀ i, i < m → V.rI 21 i = nI (A i)) → (∀ i, i < m → V.rI 22 i = nI (B i)) → (∀ i, i < m → V.rI 23 i = nI (C i)) → (∀ i, i < m → (V.rI (r + 1) i).toInt = f i) → (∀ v, v < 7 → (V.rI 26 v).toInt = exs A B f v j) → (∀ i, i < j → 0 ≤ f i ∧ f i ≤ C i) → mTo (mX7_judgeFlow_go F k' 0 Ln e r (nI j) V) (fun p => p.1 = 0 ↔ (∀ i, i < m → 0 ≤ f i ∧ f i ≤ C i) ∧ (∀ v, 1 ≤ v → v < y + 1 → exs A B f v m = 0) ∧ exs A B f 0 m = (V.fI e 8).toInt) := by
  have fin : ∀ (k : Nat) (V : mV), 16 ≤ k → V.fI 2 8 = nI (y + 2) → (∀ v, v < 7 → (V.rI 26 v).toInt = exs A B f v m) → (∀ i, i < m → 0 ≤ f i ∧ f i ≤ C i) → mTo (mX7_judgeFlow_go F k 1 Ln e 0 ((1 : Int32)) V) (fun p => p.1 = 0 ↔ (∀ i, i < m → 0 ≤ f i ∧ f i ≤ C i) ∧ (∀ v, 1 ≤ v → v < y + 1 → exs A B f v m = 0) ∧ exs A B f 0 m = (V.fI e 8).toInt) := fun k V hk h8 hE hf => by
    refine (T_judgeFlow_1 (j := 1) hy h8 y k (by omega) (by omega) (by omega)).mono (fun p hp => ⟨fun z => ?_, fun z => hp.2.mpr ⟨fun v h1 h2 => Int32.toInt_inj.mp ?_, Int32.toInt_inj.mp ?_⟩⟩)
    · obtain ⟨a, b⟩ := hp.2.mp z
      refine ⟨hf, fun v h1 h2 => ?_, ?_⟩
      · rw [← hE v (by omega), a v h1 h2]
        rfl
      · rw [← hE 0 (by omega), b]
    · rw [hE v (by omega), z.2.1 v h1 h2]
      rfl
    · rw [hE 0 (by omega), z.2.2]
  intro n
  induction n with
  | zero =>
    intro k' j hk hn hj V hc h8 h9 hA hB hC hf hE hd
    obtain ⟨k, rfl⟩ : ∃ k, k' = k + 1 := ⟨k' - 1, by omega⟩
    have hjm : j = m := by omega
    subst hjm
    rw [mX7_judgeFlow_go, if_pos rfl]
    unfold mX7_judgeFlow_b0
    rw [h9, if_pos ((nI_leI (by omega) (by omega)).mpr (Nat.le_refl _))]
    exact fin k V (by omega) h8 hE hd
  | succ n ih =>
    intro k' j hk hn hj V hc h8 h9 hA hB hC hf hE hd
    obtain ⟨k, rfl⟩ : ∃ k, k' = k + 1 := ⟨k' - 1, by omega⟩
    rw [mX7_judgeFlow_go, if_pos rfl]
    unfold mX7_judgeFlow_b0
    rw [h9]
    refine mTo.ite (fun h => ?_) (fun h => ?_)
    · have := (nI_leI (a := m) (b := j) (by omega) (by omega)).mp h
      have hjm : j = m := by omega
      subst hjm
      exact fin k V (by omega) h8 hE hd
    · have hjm : j < m := Nat.lt_of_not_le fun z => h ((nI_leI (by omega) (by omega)).mpr z)
      have no2 : ∀ {P : Prop}, (2 : Int32) = 0 → P := fun z => absurd z (by decide)
      have hin : ¬ (nI j < 0 ∨ 10 ≤ (nI j).toNatClampNeg) := nI_in (by omega) (by omega)
      have cl : (nI j).toNatClampNeg = j := nI_clamp (by omega)
      have a7 := hA7 j hjm
      have b7 := hB7 j hjm
      have c7 := hC7 j hjm
      have ina : ¬ (V.rI 21 (nI j).toNatClampNeg < 0 ∨ 7 ≤ (V.rI 21 (nI j).toNatClampNeg).toNatClampNeg) := by
        rw [cl, hA j hjm]
        exact nI_in (by omega) (by omega)
      refine mTo.N (T_at hc hl hL (by omega)) (fun v2 _ q2 => mTo.ite (fun n2 => mTo.ret ⟨fun z => no2 z, fun z => False.elim (by rw [if_pos hjm] at q2; have h9 := (z.1 j hjm).1; have n3 := i32lt.mp n2; rw [q2, hf j hjm] at n3; have e0 : (0 : Int32).toInt = 0 := rfl; omega)⟩) (fun n2 => ?_))
      refine mTo.N (T_at hc hl hL (by omega)) (fun v8 _ q8 => mTo.gd hin (mTo.ite (fun le8 => ?_) (fun le8 => mTo.ret ⟨fun z => no2 z, fun z => False.elim (le8 (i32le.mpr (by rw [if_pos hjm] at q8; have h9 := (z.1 j hjm).2; rw [q8, hf j hjm, cl, hC j hjm, nI_toInt (by omega)]; exact h9)))⟩)))
      refine mTo.gd hin (mTo.gd ina (mTo.N (T_at hc hl hL (by omega)) (fun v17 _ q17 => mTo.gd ina (mTo.lt (mTo.gd hin ?_)))))
      rw [if_pos hjm] at q2 q8 q17
      have r22 : (mI V 26 (V.rI 21 (nI j).toNatClampNeg) (V.rI 26 (V.rI 21 (nI j).toNatClampNeg).toNatClampNeg + v17)).rI 22 = V.rI 22 := mI_no (by decide)
      have rr : (mI V 26 (V.rI 21 (nI j).toNatClampNeg) (V.rI 26 (V.rI 21 (nI j).toNatClampNeg).toNatClampNeg + v17)).rI (r + 1) = V.rI (r + 1) := mI_no (by omega)
      have inb : ¬ ((mI V 26 (V.rI 21 (nI j).toNatClampNeg) (V.rI 26 (V.rI 21 (nI j).toNatClampNeg).toNatClampNeg + v17)).rI 22 (nI j).toNatClampNeg < 0 ∨ 7 ≤ ((mI V 26 (V.rI 21 (nI j).toNatClampNeg) (V.rI 26 (V.rI 21 (nI j).toNatClampNeg).toNatClampNeg + v17)).rI 22 (nI j).toNatClampNeg).toNatClampNeg) := by
        rw [r22, cl, hB j hjm]
        exact nI_in (by omega) (by omega)
      refine mTo.gd inb (mTo.N (T_at (V := mI V 26 (V.rI 21 (nI j).toNatClampNeg) (V.rI 26 (V.rI 21 (nI j).toNatClampNeg).toNatClampNeg + v17)) hc hl hL (by omega)) (fun v26 _ q26 => mTo.gd inb (mTo.lt (mTo.lt ?_))))
      rw [if_pos hjm, rr] at q26
      rw [nI_1]
      have ca : (V.rI 21 (nI j).toNatClampNeg).toNatClampNeg = A j := by rw [cl, hA j hjm, nI_clamp (by omega)]
      have cb : ((mI V 26 (V.rI 21 (nI j).toNatClampNeg) (V.rI 26 (V.rI 21 (nI j).toNatClampNeg).toNatClampNeg + v17)).rI 22 (nI j).toNatClampNeg).toNatClampNeg = B j := by rw [r22, cl, hB j hjm, nI_clamp (by omega)]
      have f0 : 0 ≤ f j := by
        have : ¬ v2.toInt < (0 : Int32).toInt := fun z => n2 (i32lt.mpr z)
        rw [q2, hf j hjm] at this
        have e0 : (0 : Int32).toInt = 0 := rfl
        omega
      have f1 : f j ≤ C j := by
        have := i32le.mp le8
        rw [q8, hf j hjm, cl, hC j hjm, nI_toInt (by omega)] at this
        exact this
      have hd' : ∀ i, i < j + 1 → 0 ≤ f i ∧ f i ≤ C i := fun i hi => by
        by_cases hq : i = j
        · subst hq
          exact ⟨f0, f1⟩
        · exact hd i (by omega)
      have bb : ∀ v, -(1000 * (j : Int)) ≤ exs A B f v j ∧ exs A B f v j ≤ 1000 * (j : Int) := fun v => exs_b j (fun i hi => ⟨(hd i hi).1, by have := (hd i hi).2; have := hC7 i (by omega); omega⟩)
      refine ih k (j + 1) (by omega) (by omega) (by omega) _ hc h8 h9 ?_ ?_ ?_ ?_ (fun v hv => ?_) hd'
      · exact fun i hi => by rw [mI_no (by decide), mI_no (by decide)]; exact hA i hi
      · exact fun i hi => by rw [mI_no (by decide), mI_no (by decide)]; exact hB i hi
      · exact fun i hi => by rw [mI_no (by decide), mI_no (by decide)]; exact hC i hi
      · exact fun i hi => by rw [mI_no (by omega), mI_no (by omega)]; exact hf i hi
      · rw [mI_at cb, cb, mI_at ca, mI_at ca, ca]
        have b1 := bb v
        have ev := hE v hv
        have ea := hE (A j) a7
        have eb := hE (B j) b7
        have fj := hf j hjm
        have b2 := bb (A j)
        have b3 := bb (B j)
        rw [exs]
        subst q17 q26
        by_cases h1 : v = B j
        · subst h1
          rw [if_pos rfl, if_pos rfl]
          by_cases h2 : B j = A j
          · rw [if_pos h2, if_pos h2.symm, i32sub (by rw [i32add (by omega) (by omega)]; omega) (by rw [i32add (by omega) (by omega)]; omega), i32add (by omega) (by omega), ea, fj, h2]
          · rw [if_neg h2, if_neg (fun z => h2 z.symm), i32sub (by omega) (by omega), eb, fj]
            omega
        · rw [if_neg h1, if_neg (show ¬ B j = v from fun z => h1 z.symm)]
          by_cases h2 : v = A j
          · rw [if_pos h2, if_pos (show A j = v from h2.symm), i32add (by omega) (by omega), ea, fj, h2]
            omega
          · rw [if_neg h2, if_neg (show ¬ A j = v from fun z => h2 z.symm), ev]
            omega
end
