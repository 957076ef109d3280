/-! THE PURE PART, pairings: the kept row of nodes is accepted. -/
section
theorem full_X {s : Nat} : ∀ i, (2 ^ s - 1).testBit i = true → i < s := fun i h => by
  rw [nb_fullbit] at h
  exact of_decide_eq_true h
theorem cnt_fullb {s : Nat} : cnt (fun i => (2 ^ s - 1).testBit i) s = s := by
  have h1 : ∀ n, cnt (fun _ => true) n = n := fun n => by
    induction n with
    | zero => rfl
    | succ n ih => rw [cnt, ih, if_pos rfl]
  rw [cnt_eq (Y := fun _ => true) s (fun i hi => by rw [nb_fullbit]; exact decide_eq_true hi), h1]
theorem dn_iff {nr : Nat → Nat} {s v : Nat} (hs : s ≤ 9) (hv : v < s) (hsym : ∀ u w, (nr u).testBit w = true → (nr w).testBit u = true) : Dn (fun u w => (nr u).testBit w) (fun i => (2 ^ s - 1).testBit i) s v ↔ cbN nr s v = true := by
  have s9 := nb_2s hs
  have p2 := Nat.two_pow_pos s
  have xv : (2 ^ s - 1).testBit v = true := by rw [nb_fullbit]; exact decide_eq_true hv
  have l1 := nsd_ltS xv
  have c1 := cnt_del (X := fun i => (2 ^ s - 1).testBit i) xv s hv
  rw [cnt_fullb] at c1
  have vR : (nsd (2 ^ s - 1) (2 ^ v)).testBit v = false := by
    rw [nsd_bit, nb_pow, decide_eq_true rfl, Bool.not_true, Bool.and_false]
  have sub : ∀ i, (nsd (2 ^ s - 1) (2 ^ v)).testBit i = true → (2 ^ s - 1).testBit i = true := fun i hi => by
    rw [nsd_bit, Bool.and_eq_true] at hi
    exact hi.1
  obtain ⟨q, q1, q2⟩ := nu_ex hs hsym (2 ^ 20) (nsd (2 ^ s - 1) (2 ^ v)) (by omega) (by omega)
  have qv : q v = v := q1.out vR
  have q3 := q1.up sub
  have a1 := alo_del (X := fun i => (2 ^ s - 1).testBit i) xv hv qv
  have g1 := nu_le hs hsym (2 ^ 20) (2 ^ s - 1) (by omega) (by omega) q q3
  rw [cnt_fullb] at g1
  rw [← nsd_cdel] at a1 c1
  constructor
  · rintro ⟨p, hp, _, pv⟩
    have a2 := alo_del (X := fun i => (2 ^ s - 1).testBit i) xv hv pv
    have d2 := hp.1.down pv
    rw [← nsd_cdel] at a2 d2
    obtain ⟨r, r1, r2⟩ := nu_ex hs hsym (2 ^ 20) (2 ^ s - 1) (by omega) (by omega)
    rw [cnt_fullb] at r2
    have g2 := hp.2 r r1
    have g3 := nu_le hs hsym (2 ^ 20) (nsd (2 ^ s - 1) (2 ^ v)) (by omega) (by omega) p d2
    exact decide_eq_true (by omega)
  · intro h
    have h := of_decide_eq_true h
    refine ⟨q, ⟨q3, fun r hr => ?_⟩, xv, qv⟩
    have g2 := nu_le hs hsym (2 ^ 20) (2 ^ s - 1) (by omega) (by omega) r hr
    rw [cnt_fullb] at g2
    omega
theorem rise_ne {xs : List Int32} {s : Nat} (hr : ∀ i, i + 1 < xs.length → xs.getD i 0 < xs.getD (i + 1) 0) : ∀ i j, i < j → j < xs.length → pX xs i ≠ pX xs j ∨ xs.getD i 0 < 0 := by
  intro i j hij hj
  have h := rise_all (f := fun i => xs.getD i 0) hr i j hij hj
  by_cases z : xs.getD i 0 < 0
  · exact Or.inr z
  · left
    intro e
    unfold pX at e
    have z1 : ¬ (xs.getD i 0).toInt < 0 := fun y => z (i32lt.mpr y)
    have h : (xs.getD i 0).toInt < (xs.getD j 0).toInt := h
    rw [i32c (by omega), i32c (by omega)] at e
    omega
theorem wn_ok {nr : Nat → Nat} {s b : Nat} (hs : s ≤ 9) (hsym : ∀ u w, (nr u).testBit w = true → (nr w).testBit u = true) (hnb : ∀ v, (nr v).testBit v = false) (hb : b < s - 2 * nu nr s (2 ^ s - 1)) : nodesOK s nr b (wnL nr s s) := by
  have s9 := nb_2s hs
  have p2 := Nat.two_pow_pos s
  obtain ⟨w1, w2, w3⟩ := wnL_in (nr := nr) (s := s) s
  have w4 := wnL_rise (nr := nr) (s := s) (by omega) s (Nat.le_refl _)
  have hsy : ∀ i j, (fun u w => (nr u).testBit w) i j = true → (fun u w => (nr u).testBit w) j i = true := fun i j h => hsym i j h
  obtain ⟨M, m1, m2⟩ := nu_ex hs hsym (2 ^ 20) (2 ^ s - 1) (by omega) (by omega)
  rw [cnt_fullb] at m2
  have hM : Mx (fun u w => (nr u).testBit w) (fun i => (2 ^ s - 1).testBit i) s M := ⟨m1, fun r hr => by
    have g2 := nu_le hs hsym (2 ^ 20) (2 ^ s - 1) (by omega) (by omega) r hr
    rw [cnt_fullb] at g2
    omega⟩
  have hpx : ∀ l, l < (wnL nr s s).length → pX (wnL nr s s) l < s ∧ isA nr s (pX (wnL nr s s) l) = true := fun l hl => by
    obtain ⟨v, v1, v2, v3⟩ := w1 l hl
    rw [pX_eq v3 (by omega)]
    exact ⟨v1, v2⟩
  have hA : ∀ l, l < (wnL nr s s).length → pX (wnL nr s s) l < s ∧ ¬ Dn (fun u w => (nr u).testBit w) (fun i => (2 ^ s - 1).testBit i) s (pX (wnL nr s s) l) ∧ ∃ d, Dn (fun u w => (nr u).testBit w) (fun i => (2 ^ s - 1).testBit i) s d ∧ (fun u w => (nr u).testBit w) (pX (wnL nr s s) l) d = true := fun l hl => by
    obtain ⟨a1, a2⟩ := hpx l hl
    unfold isA at a2
    rw [Bool.and_eq_true, Bool.not_eq_true', decide_eq_true_eq] at a2
    obtain ⟨d, d1, d2⟩ := cnt_ex s a2.2
    have d2 : ((nr (pX (wnL nr s s) l)).testBit d && cbN nr s d) = true := d2
    rw [Bool.and_eq_true] at d2
    refine ⟨a1, fun z => ?_, d, (dn_iff hs d1 hsym).mpr d2.2, d2.1⟩
    have := (dn_iff hs a1 hsym).mp z
    rw [a2.1] at this
    exact absurd this (by decide)
  obtain ⟨s1, p, s2, s3⟩ := lft_stab hsy hM (fun i j hij hj => ((rise_ne (s := s) w4 i j hij hj).resolve_right (fun z => by
    obtain ⟨v, v1, _, v3⟩ := w1 i (by omega)
    rw [v3] at z
    exact nI_pos (by omega) z))) hA (wnL nr s s).length (Nat.le_refl _)
  have hl := lftN_lt (s := s) (xs := wnL nr s s) (wnL nr s s).length
  have g := odd_ge hs hl hsym s2 (fun u w hu hw huw hDu => by
    have u2 := (lftN_bit (s := s) (xs := wnL nr s s) (i := u) _).mp hu
    have w2' := (lftN_bit (s := s) (xs := wnL nr s s) (i := w) _).mp hw
    have cu := (dn_iff hs u2.1 hsym).mp ((s1 u).mp hDu)
    refine (s1 w).mpr ((dn_iff hs w2'.1 hsym).mpr ?_)
    cases cw : cbN nr s w with
    | true => rfl
    | false =>
      have iw : isA nr s w = true := by
        unfold isA
        rw [cw, decide_eq_true (cnt_pos (X := fun o => (nr w).testBit o && cbN nr s o) (i := u) (by show ((nr w).testBit u && cbN nr s u) = true; rw [hsym u w huw, cu]; rfl) u2.1)]
        rfl
      obtain ⟨l, l1, l2⟩ := w2 w w2'.1 iw
      exact absurd (pX_eq l2 (by have := w2'.1; omega)) (w2'.2 l l1)) s (Nat.le_refl _)
  obtain ⟨_, g2, g3⟩ := g
  refine ⟨fun i hi => ?_, fun i _ hi => w4 i hi, ?_⟩
  · obtain ⟨v, v1, _, v3⟩ := w1 i hi
    exact ⟨v, v1, v3⟩
  · have e : alo (fun i => (lftN s (wnL nr s s) (wnL nr s s).length).testBit i) p s = cnt (fun v => (lftN s (wnL nr s s) (wnL nr s s).length).testBit v && !(ocs nr (lftN s (wnL nr s s) (wnL nr s s).length) s).1.testBit v && decide (p v = v)) s := cnt_eq s (fun i hi => by
      have : (ocs nr (lftN s (wnL nr s s) (wnL nr s s).length) s).1.testBit i = false := by
        cases z : (ocs nr (lftN s (wnL nr s s) (wnL nr s s).length) s).1.testBit i with
        | false => rfl
        | true =>
          have := (g2 i z).2
          omega
      rw [this, Bool.not_false, Bool.and_true])
    omega
theorem nrA_self {m s : Nat} {A B : Nat → Nat} (h : ∀ i, i < m → A i ≠ B i) (v : Nat) : (nrA m A B v).testBit v = false := by
  cases z : (nrA m A B v).testBit v with
  | false => rfl
  | true =>
    obtain ⟨i, i1, _, i2⟩ := (nearN_bit (P := fun _ => true) m).mp z
    exfalso
    exact h i i1 (by omega)
/-- pairings: the kept row is accepted in its sense -/
theorem rowM_yes {m s b : Nat} {A B : Nat → Nat} (hs : s ≤ 9) (h : s - 2 * nu (nrA m A B) s (2 ^ s - 1) ≤ b) : pairOK s (nrA m A B) b (rowM (nrA m A B) s b) := by
  unfold rowM
  rw [if_pos h]
  exact wp_ok hs nrA_sym h
theorem rowM_no {m s b : Nat} {A B : Nat → Nat} (hs : s ≤ 9) (hAB : ∀ i, i < m → A i ≠ B i) (h : ¬ s - 2 * nu (nrA m A B) s (2 ^ s - 1) ≤ b) : nodesOK s (nrA m A B) b (rowM (nrA m A B) s b) := by
  unfold rowM
  rw [if_neg h]
  exact wn_ok hs nrA_sym (nrA_self (s := s) hAB) (by omega)
end
