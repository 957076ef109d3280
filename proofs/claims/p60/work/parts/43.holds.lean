/-! THE PURE PART: what 'holds' answers of a rising row. -/
section
theorem i32lt {x y : Int32} : x < y ↔ x.toInt < y.toInt := Int32.lt_iff_toInt_lt
theorem i32le {x y : Int32} : x ≤ y ↔ x.toInt ≤ y.toInt := Int32.le_iff_toInt_le
theorem nI_hi {H lo : Nat} (hH : H < 2 ^ 20) (hl : lo < 2 ^ 20) : nI H - 1 < nI lo ↔ H ≤ lo := by
  cases H with
  | zero =>
    have e : (nI 0 - 1).toInt = -1 := by decide
    rw [i32lt, e, nI_toInt (by omega)]
    omega
  | succ h =>
    rw [nI_pred, nI_ltI (by omega) (by omega)]
    omega
theorem T_holds_go {F : Nat} {Ln : Nat → Nat} {V : mV} {r c : Nat} {x : Int32} (hl : c ≤ Ln (r + 1)) (hL : Ln (r + 1) ≤ 1024) (hm : ∀ i j, i < j → j < c → (V.rI (r + 1) i).toInt < (V.rI (r + 1) j).toInt) : ∀ n k' lo H cnt : Nat, n < k' → H < lo + 2 ^ n → cnt + n ≤ 31 → lo ≤ c → H ≤ c → (∀ i, i < lo → (V.rI (r + 1) i).toInt < x.toInt) → (∀ i, H ≤ i → i < c → x.toInt < (V.rI (r + 1) i).toInt) → mTo (mX9_holds_go F k' 0 Ln r x (nI lo) (nI H - 1) (nI cnt) V) (fun v => (v = 1 ∧ ∃ i, i < c ∧ V.rI (r + 1) i = x) ∨ (v = 0 ∧ ∀ i, i < c → V.rI (r + 1) i ≠ x)) := by
  intro n
  induction n with
  | zero =>
    intro k' lo H cnt hk hw hc hlo hH h1 h2
    obtain ⟨k, rfl⟩ : ∃ k, k' = k + 1 := ⟨k' - 1, by omega⟩
    rw [mX9_holds_go, if_pos rfl]
    unfold mX9_holds_b0
    refine mTo.ite (fun h => ?_) (fun _ => ?_)
    · have := (nI_leI (a := 32) (b := cnt) (by omega) (by omega)).mp h
      omega
    · rw [if_pos ((nI_hi (by omega) (by omega)).mpr (by omega))]
      refine mTo.ret (Or.inr ⟨rfl, fun i hi e => ?_⟩)
      by_cases hq : i < lo
      · have := h1 i hq
        rw [e] at this
        omega
      · have := h2 i (by omega) hi
        rw [e] at this
        omega
  | succ n ih =>
    intro k' lo H cnt hk hw hc hlo hH h1 h2
    obtain ⟨k, rfl⟩ : ∃ k, k' = k + 1 := ⟨k' - 1, by omega⟩
    rw [mX9_holds_go, if_pos rfl]
    unfold mX9_holds_b0
    refine mTo.ite (fun h => ?_) (fun _ => mTo.ite (fun h => ?_) (fun h => ?_))
    · have := (nI_leI (a := 32) (b := cnt) (by omega) (by omega)).mp h
      omega
    · have := (nI_hi (by omega) (by omega)).mp h
      refine mTo.ret (Or.inr ⟨rfl, fun i hi e => ?_⟩)
      by_cases hq : i < lo
      · have := h1 i hq
        rw [e] at this
        omega
      · have := h2 i (by omega) hi
        rw [e] at this
        omega
    · have hlt : lo < H := Nat.lt_of_not_le fun z => h ((nI_hi (by omega) (by omega)).mpr z)
      obtain ⟨H', rfl⟩ : ∃ H', H = H' + 1 := ⟨H - 1, by omega⟩
      rw [nI_pred, nI_add, show (2 : Int32) = nI 2 from rfl, pk_div (by omega) (by decide) (by decide)]
      refine mTo.lt ?_
      obtain ⟨mid, hmid⟩ : ∃ mid, mid = (lo + H') / 2 := ⟨_, rfl⟩
      rw [← hmid]
      have b1 : lo ≤ mid := by omega
      have b2 : mid ≤ H' := by omega
      have hp : 2 ^ (n + 1) = 2 * 2 ^ n := by rw [Nat.pow_succ, Nat.mul_comm]
      refine mTo.gd (nI_in (by omega) (by omega)) ?_
      rw [nI_clamp (by omega)]
      refine mTo.ite (fun e => mTo.ret (Or.inl ⟨rfl, mid, by omega, e⟩)) (fun ne => mTo.gd (fun z => nI_in (c := mid) (N := Ln (r + 1)) (by omega) (by omega) (by rw [nI_clamp (by omega)]; exact z)) ?_)
      have ne' : (V.rI (r + 1) mid).toInt ≠ x.toInt := fun z => ne (Int32.toInt_inj.mp z)
      refine mTo.ite (fun h3 => mTo.lt (mTo.lt ?_)) (fun h3 => mTo.lt (mTo.lt ?_))
      · rw [nI_1]
        have h3 := i32le.mp h3
        refine ih k lo mid (cnt + 1) (by omega) (by omega) (by omega) hlo (by omega) h1 (fun i p1 p2 => ?_)
        by_cases hq : i = mid
        · subst hq
          omega
        · have := hm mid i (by omega) p2
          omega
      · have h3 : ¬ x.toInt ≤ (V.rI (r + 1) mid).toInt := fun z => h3 (i32le.mpr z)
        have g := ih k (mid + 1) (H' + 1) (cnt + 1) (by omega) (by omega) (by omega) (by omega) hH (fun i p1 => ?_) h2
        · rw [nI_pred] at g
          rw [nI_1, nI_1]
          exact g
        · by_cases hq : i = mid
          · subst hq
            omega
          · have := hm i mid (by omega) (by omega)
            omega
theorem rise_all {f : Nat → Int32} {c : Nat} (h : ∀ i, i + 1 < c → f i < f (i + 1)) : ∀ i j, i < j → j < c → (f i).toInt < (f j).toInt := by
  intro i j hij hj
  induction j with
  | zero => omega
  | succ j ih =>
    have h1 := i32lt.mp (h j hj)
    by_cases hq : i = j
    · subst hq
      exact h1
    · have := ih (by omega) (by omega)
      omega
theorem T_holds {F : Nat} {Ln : Nat → Nat} {V : mV} {r c : Nat} {x : Int32} (hF : 64 ≤ F) (hc : V.fI r 1 = nI c) (hl : c ≤ Ln (r + 1)) (hL : Ln (r + 1) ≤ 1024) (h : ∀ i, i + 1 < c → V.rI (r + 1) i < V.rI (r + 1) (i + 1)) : mTo (mX9_holds F Ln r (0 : Int32) x V) (fun v => (v = 1 ∧ ∃ i, i < c ∧ V.rI (r + 1) i = x) ∨ (v = 0 ∧ ∀ i, i < c → V.rI (r + 1) i ≠ x)) := by
  unfold mX9_holds mX9_holds_s
  refine mTo.lt ?_
  rw [hc]
  exact T_holds_go hl hL (rise_all h) 11 F 0 c 0 (by omega) (by omega) (by omega) (by omega) (Nat.le_refl _) (fun i hi => by omega) (fun i h1 h2 => by omega)
end
