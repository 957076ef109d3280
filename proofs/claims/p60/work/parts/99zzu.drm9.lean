/-! THE PURE PART, drawings: the judge of cores, the whole; the core that is written; the solver, the whole. -/
section
theorem minI {V : mV} {e s m b : Nat} {d : Nat → Int32} (hm : m ≤ 11) (hb : b ≤ 11) (hq : enQ V e s m (nI b) d) : (if V.fI e 6 < V.fI e 8 then V.fI e 6 else V.fI e 8) = nI (min m b) := by
  rw [hq.2.1, hq.2.2.1]
  by_cases c : m < b
  · rw [if_pos (i32lt.mpr (by rw [nI_toInt (by omega), nI_toInt (by omega)]; omega)), Nat.min_eq_left (by omega)]
  · rw [if_neg (fun w => c (by
      have := i32lt.mp w
      rw [nI_toInt (by omega), nI_toInt (by omega)] at this
      omega)), Nat.min_eq_right (by omega)]
theorem lies_iff {xs : List Int32} {c : Nat} (hc : c < 2 ^ 20) : (∀ i, 1 ≤ i → i < xs.length → ¬ xs.getD i 0 < 0 ∧ xs.getD i 0 ≤ nI c - 1) ↔ ∀ i, 1 ≤ i → i < xs.length → ∃ v, v < c ∧ xs.getD i 0 = nI v := by
  constructor
  · intro h i h1 h2
    obtain ⟨a, b⟩ := h i h1 h2
    rcases Nat.eq_zero_or_pos c with z | z
    · rw [z] at b
      have b := i32le.mp b
      have e : (nI 0 - 1).toInt = -1 := by decide
      rw [e] at b
      exact absurd (i32lt.mpr (by have e0 : (0 : Int32).toInt = 0 := rfl; omega)) a
    · exact i32nat (by omega) ⟨a, b⟩ z
  · intro h i h1 h2
    obtain ⟨v, v1, v2⟩ := h i h1 h2
    rw [v2]
    exact i32nat' (by omega) v1
theorem T_judgeCore {F e r s m b : Nat} {Ln : Nat → Nat} {A B : Nat → Nat} {d : Nat → Int32} {xs : List Int32} {V : mV} (hF : 2 ^ 22 ≤ F) (he : 256 ≤ e) (hr : 256 ≤ r) (hs : s ≤ 7) (hm : m ≤ 11) (hb : b ≤ 11) (hd : qP d s m A B) (hq : enQ V e s m (nI b) d) (hR : rowIs Ln V r xs) : mTo (mX2_judgeCore F Ln e r V) (fun v => v.1 = 0 ↔ coreOK m b A B xs) := by
  have hg : gph (nearN (rwTl xs) A B m) s := near_gph hs hm hd
  have n := hR.n
  have no : ∀ {P : Prop} {x : Int32}, x ≠ 0 → ¬ P → (x = 0 ↔ P) := fun a b => ⟨fun c => absurd c a, fun c => absurd c b⟩
  have n1 : (1 : Int32) ≠ 0 := by decide
  have main : ∀ kd, (kd = 5 ∨ kd = 3) → xs.getD 0 0 = nI kd → xs.length ≠ 0 → mTo (mBN (mX9_liesWithin F Ln r ((1 : Int32)) ((0 : Int32)) ((nI (min m b) - (1 : Int32))) V) fun v45 => (if v45 = 0 then some ((1 : Int32), V) else (mBN (mX9_isRising F Ln r ((1 : Int32)) V) fun v51 => (if v51 = 0 then some ((1 : Int32), V) else (mX2_judgeCore_go F F 0 Ln e r (nI kd) ((0 : Int32)) ((1 : Int32)) V))))) (fun v => v.1 = 0 ↔ coreOK m b A B xs) := fun kd hk x0 hl => by
    have kdu : coreOK m b A B xs → jcB (nearN (rwTl xs) A B m) kd = true := fun ⟨_, ⟨kd', k1, k2, k3⟩, _⟩ => by
      have : kd' = kd := by
        rw [x0] at k2
        exact ((nI_eq (by omega) (by omega)).mp k2).symm
      rw [← this]
      exact k3
    refine mTo.N (T_rWithin (j := 1) (by omega) hR (by omega)) (fun v _ q => mTo.tf q (fun hc => mTo.ret (no n1 (fun c => hc ((lies_iff (by omega)).mpr c.2.2.1)))) (fun hc => ?_))
    have hw := (lies_iff (by omega)).mp hc
    refine mTo.N (T_rRising (j := 1) (by omega) hR (by omega)) (fun v _ q => mTo.tf q (fun hc => mTo.ret (no n1 (fun c => hc c.2.2.2))) (fun hri => ?_))
    have go : ∀ k' i S, xs.length < i + k' → 1 ≤ i → i ≤ xs.length → S < 2 ^ 11 → (∀ v, S.testBit v = true ↔ ∃ i', 1 ≤ i' ∧ i' < i ∧ xs.getD i' 0 = nI v ∧ v < 11) → mTo (mX2_judgeCore_go F k' 0 Ln e r (nI kd) (nI S) (nI i) V) (fun v => v.1 = 0 ↔ coreOK m b A B xs) := by
      intro k'
      induction k' with
      | zero => intro i S h1 h2 h3; omega
      | succ k ih =>
        intro i S h1 h2 h3 h4 h5
        rw [mX2_judgeCore_go, if_pos rfl]
        unfold mX2_judgeCore_b0
        refine mTo.le hR.1 rfl (by omega) (by omega) (fun z => ?_) (fun z => ?_)
        · have ei : i = xs.length := by omega
          have hset : ∀ j, j < m → mX11_has F (nI S) (nI j) = some (if rwTl xs j = true then 1 else 0) := fun j hj => by
            have : S.testBit j = rwTl xs j := by
              rw [Bool.eq_iff_iff, h5, rwT_t, ei]
              exact ⟨fun ⟨i', a, b, c, _⟩ => ⟨i', a, b, c⟩, fun ⟨i', a, b, c⟩ => ⟨i', a, b, c, by omega⟩⟩
            rw [nb_has (by omega) (by omega), this]
          refine mTo.W (T_loadEdges (P := rwTl xs) hF he hs hm hd hq hset) (fun _ V1 _ q => ?_)
          obtain ⟨q1, q2, q3⟩ := q
          have q1 : edS V1 (nearN (rwTl xs) A B m) s := q1
          refine mTo.N (T_countBranches (k := 0) (by omega) hg q1 (by omega)) (fun v _ hv => mTo.N (T_countBranches (k := 1) (by omega) hg q1 (by omega)) (fun v' _ hv' => ?_))
          subst hv
          subst hv'
          have c0 : cbP (nearN (rwTl xs) A B m) 0 ≤ 7 := cnt_n 7
          have c1 : cbP (nearN (rwTl xs) A B m) 1 ≤ 7 := cnt_n 7
          have je := jc_eq (nb := nearN (rwTl xs) A B m) (kd := kd)
          refine mTo.eqI rfl rfl (by omega) (by omega) (fun y => ?_) (fun y => mTo.ret (no (show (2 : Int32) ≠ 0 by decide) (fun c => y ?_)))
          · refine mTo.N (T_areBranchesOf (by omega) hg q1 hk) (fun v _ q => mTo.tf q (fun hc => mTo.ret (no (show (3 : Int32) ≠ 0 by decide) (fun c => hc ?_))) (fun hc => ?_))
            · have := kdu c
              rw [je, Bool.and_eq_true, Bool.and_eq_true] at this
              exact this.1.2
            · refine mTo.W (T_areWaysOf (by omega) hg q1 hk) (fun v24 V2 _ q => ?_)
              have q : (v24 = 0 ∨ v24 = 1) ∧ (v24 ≠ 0 ↔ awB (nearN (rwTl xs) A B m) kd = true) := q
              refine mTo.tf q (fun ha => mTo.ret (no (show (4 : Int32) ≠ 0 by decide) (fun c => ha ?_))) (fun ha => mTo.ret ⟨fun _ => ⟨hl, ⟨kd, hk, x0, ?_⟩, hw, hri⟩, fun _ => rfl⟩)
              · have := kdu c
                rw [je, Bool.and_eq_true] at this
                exact this.2
              · rw [je, y, Nat.beq_refl, hc, ha]
                rfl
          · have := kdu c
            rw [je, Bool.and_eq_true, Bool.and_eq_true] at this
            exact Nat.eq_of_beq_eq_true this.1.1
        · obtain ⟨v, v1, v2⟩ := hw i h2 (by omega)
          refine mTo.so (T_rAt hR (by omega)) (mTo.lt (mTo.lt ?_))
          rw [v2, nb_one (by omega), nb_or, nI_1]
          refine ih (i + 1) (S ||| 2 ^ v) (by omega) (by omega) (by omega) (nb_or_lt h4 (nb_p2 (by omega))) (fun w => ?_)
          rw [Nat.testBit_or, Bool.or_eq_true, nb_pow, decide_eq_true_iff, h5]
          constructor
          · rintro (⟨i', a, b, c⟩ | c)
            · exact ⟨i', a, by omega, c⟩
            · exact ⟨i, h2, by omega, by rw [v2, c], by omega⟩
          · rintro ⟨i', a, b, c, d⟩
            by_cases f : i' = i
            · right
              rw [f, v2] at c
              exact (nI_eq (by omega) (by omega)).mp c
            · exact Or.inl ⟨i', a, by omega, c, d⟩
    have l1 : 1 ≤ xs.length := by omega
    exact go F 1 0 (by omega) (Nat.le_refl _) l1 (by decide) (fun v => by
      rw [Nat.zero_testBit]
      exact ⟨fun c => absurd c (by decide), fun ⟨i', a, b, _⟩ => by omega⟩)
  unfold mX2_judgeCore mX2_judgeCore_s
  refine mTo.lt ?_
  rw [minI hm hb hq]
  have e0 : mX9_at F Ln r (0 : Int32) V = some (xs.getD 0 0) := T_rAt (j := 0) hR (by omega)
  refine mTo.so e0 (mTo.eqI (b := 0) hR.1 rfl (by omega) (by omega) (fun z => mTo.ret (no n1 (fun c => c.1 z))) (fun z => ?_))
  refine mTo.ite (fun y => ?_) (fun y => mTo.ite (fun x => ?_) (fun x => mTo.ret (no n1 (fun ⟨_, ⟨kd, k1, k2, _⟩, _⟩ => ?_))))
  · rw [y]
    exact main 5 (Or.inl rfl) y z
  · rw [x]
    exact main 3 (Or.inr rfl) x z
  · rcases k1 with k | k
    · rw [k] at k2
      exact y k2
    · rw [k] at k2
      exact x k2
end
