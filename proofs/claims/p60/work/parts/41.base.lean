/-! THE PURE PART: a state's reads behind its writes; an entry's numbers; a row filled; the flows' numbers loaded. -/
section
theorem nI_mulC (a b : Nat) : nI a * nI b = nI (a * b) := by
  first
    | exact (Int32.ofNat_mul a b).symm
    | (apply Int32.toBitVec_inj.mp; simp [nI, BitVec.ofNat_mul])
theorem mI_at {V : mV} {a j i : Nat} {x v : Int32} (hx : x.toNatClampNeg = j) : (mI V a x v).rI a i = if i = j then v else V.rI a i := by
  show va_up V.rI a (upd (V.rI a) x.toNatClampNeg v) a i = _
  rw [mUp_eq, hx]
  rfl
theorem mI_no {V : mV} {a b : Nat} {x v : Int32} (h : b ≠ a) : (mI V a x v).rI b = V.rI b := mUp_ne _ _ h
theorem mF_at {V : mV} {a j : Nat} {v : Int32} : (mF V a j v).fI a j = v := by
  show va_up V.fI a (va_up (V.fI a) j v) a j = v
  rw [mUp_eq, mUp_eq]
theorem mF_no {V : mV} {a j b k : Nat} {v : Int32} (h : b ≠ a ∨ k ≠ j) : (mF V a j v).fI b k = V.fI b k := by
  show va_up V.fI a (va_up (V.fI a) j v) b k = _
  by_cases hb : b = a
  · subst hb
    rw [mUp_eq, mUp_ne _ _ (h.resolve_left (fun z => z rfl))]
  · rw [mUp_ne _ _ hb]
theorem T_X3_at {F : Nat} {V : mV} {e m j k : Nat} (hm : V.fI e 6 = nI m) (h16 : m ≤ 16) (hj : j < 2 ^ 20) (hk : k < 5) : mTo (mX3_at F e (nI j) (nI k) V) (fun v => v = if j < m then V.rI (e + 1) (5 * j + k) else 0) := by
  unfold mX3_at
  refine mTo.lt ?_
  rw [show (5 : Int32) = nI 5 from rfl, nI_mulC, nI_add, hm]
  refine mTo.ite (fun h => absurd h (nI_pos (by omega))) (fun _ => mTo.ite (fun h => mTo.ret ?_) (fun h => ?_))
  · have := (nI_leI (a := m) (b := j) (by omega) (by omega)).mp h
    rw [if_neg (by omega)]
  · have hjm : j < m := Nat.lt_of_not_le fun z => h ((nI_leI (by omega) (by omega)).mpr z)
    refine mTo.ite (fun h => ?_) (fun _ => ?_)
    · have := (nI_leI (a := 80) (b := j * 5 + k) (by omega) (by omega)).mp h
      omega
    · refine mTo.gd (nI_in (by omega) (by omega)) (mTo.ret ?_)
      rw [if_pos hjm, nI_clamp (by omega), Nat.mul_comm]
theorem T_fill_go {F a N : Nat} {x : Int32} (hN : mLen a = N) (hN2 : N < 2 ^ 20) : ∀ n k' j : Nat, n < k' → N ≤ j + n → j ≤ N → ∀ V : mV, mTo (mJ7_fill_53178_go F k' 0 a x (nI j) (nI N) V) (fun p => ∀ i, p.2.rI a i = if j ≤ i ∧ i < N then x else V.rI a i) := by
  intro n
  induction n with
  | zero =>
    intro k' j hk hn hj V
    obtain ⟨k, rfl⟩ : ∃ k, k' = k + 1 := ⟨k' - 1, by omega⟩
    rw [mJ7_fill_53178_go, if_pos rfl]
    unfold mJ7_fill_53178_b0
    rw [if_pos ((nI_leI (by omega) (by omega)).mpr (by omega))]
    exact mTo.ret (fun i => by rw [if_neg (by omega)])
  | succ n ih =>
    intro k' j hk hn hj V
    obtain ⟨k, rfl⟩ : ∃ k, k' = k + 1 := ⟨k' - 1, by omega⟩
    rw [mJ7_fill_53178_go, if_pos rfl]
    unfold mJ7_fill_53178_b0
    refine mTo.ite (fun h => ?_) (fun h => ?_)
    · have := (nI_leI (a := N) (b := j) (by omega) (by omega)).mp h
      exact mTo.ret (fun i => by rw [if_neg (by omega)])
    · have hjc : j < N := Nat.lt_of_not_le fun z => h ((nI_leI (by omega) (by omega)).mpr z)
      rw [hN]
      refine mTo.gd (nI_in (by omega) (by omega)) (mTo.lt (mTo.lt ?_))
      rw [nI_1]
      refine (ih k (j + 1) (by omega) (by omega) (by omega) _).mono (fun p hp i => ?_)
      rw [hp i, mI_at (nI_clamp (by omega))]
      by_cases hi : i = j
      · subst hi
        rw [if_neg (by omega), if_pos rfl, if_pos ⟨Nat.le_refl _, hjc⟩]
      · rw [if_neg hi]
        by_cases hq : j + 1 ≤ i ∧ i < N
        · rw [if_pos hq, if_pos ⟨by omega, hq.2⟩]
        · rw [if_neg hq, if_neg (by omega)]
theorem T_fill {F a N : Nat} {x : Int32} {V : mV} (hF : 2 ^ 21 ≤ F) (hN : mLen a = N) (hN2 : N < 2 ^ 20) : mTo (mJ7_fill_53178 F a x V) (fun p => (∀ i, i < N → p.2.rI a i = x) ∧ mAv (wJ7_fill_53178 a) V p.2) := by
  unfold mJ7_fill_53178 mJ7_fill_53178_s
  refine mTo.lt ?_
  obtain ⟨p, e, q⟩ := T_fill_go (F := F) (x := x) hN hN2 N F 0 (by omega) (by omega) (by omega) V
  have e2 : mJ7_fill_53178 F a x V = some p := by
    unfold mJ7_fill_53178 mJ7_fill_53178_s mLt
    rw [hN]
    exact e
  rw [hN]
  refine ⟨p, e, fun i hi => ?_, NJ7_fill_53178 (v := p.1) e2⟩
  rw [q i, if_pos ⟨Nat.zero_le _, hi⟩]
end
