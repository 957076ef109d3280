/-! THE LAW: a book that is written anew. -/
section
theorem c0_rows : (∀ j, j < 12 → cF (256 + 8 * j + 2) 1 = 0 ∧ cF (256 + 8 * j + 4) 1 = 0) ∧ (∀ j, j < 16 → cF (1024 + 4 * j + 1) 1 = 0) ∧ cF 2048 1 = 0 ∧ cF 0 2 = 0 ∧ cF 0 9 = 0 ∧ cF 0 10 = 0 ∧ cF 0 13 = 0 ∧ cF 0 15 = 0 ∧ cF 0 17 = 0 := by decide
theorem st_new {Ln : Nat → Nat} {Q : Nat → qT} (h : ∀ d, d ≠ 3001 → Ln d = mLn0 d) (hq : Qs (Q 100) = 0) : bST Ln mV0 0 Q := by
  obtain ⟨c1, c2, c3, c4, c5, c6, c7, c8, c9⟩ := c0_rows
  have row : ∀ r, r + 1 ≠ 3001 → r + 1 ≠ 9 → r + 1 ≠ 3000 → cF r 1 = 0 → rowIs Ln mV0 r [] := fun r h1 h2 h3 h4 => ⟨h4, Nat.zero_le _, ⟨0, by decide, by rw [h _ h1]; unfold mLn0; rw [if_neg h2, if_neg h3, if_neg h1]⟩, fun i hi => absurd hi (Nat.not_lt_zero _)⟩
  have l9 : Ln 9 = 256 := by rw [h 9 (by decide)]; rfl
  refine ⟨⟨⟨c4, by decide, fun j hj => absurd hj (Nat.not_lt_zero _), fun j hj => absurd hj (Nat.not_lt_zero _)⟩, fun j hj => absurd hj (Nat.not_lt_zero _), fun j hj => ⟨[], row _ (by omega) (by omega) (by omega) (c1 j hj).1⟩⟩, ⟨⟨[], row _ (by decide) (by decide) (by decide) c3⟩, fun j hj => ⟨[], row _ (by omega) (by omega) (by omega) (c1 j hj).2⟩, ⟨0, 0, by decide, by decide, c5, c6⟩, ⟨0, c8, by decide, fun i hi => ⟨⟨i, hi, rfl⟩, [], row (1024 + 4 * i + 1) (by omega) (by omega) (by omega) (c2 i hi)⟩, fun i j hij _ => by show 1024 + 4 * i ≠ 1024 + 4 * j; omega, fun i hi => absurd hi (Nat.not_lt_zero _)⟩, ⟨0, c7, by decide, hq.symm⟩, ⟨0, c9, by decide, by omega⟩, 0, by decide, l9⟩, fun j hj => absurd hj (Nat.not_lt_zero _)⟩
/-- the first k items of what is asked, under a bound of its own -/
def trQ (q : qT) (b : Int32) (k : Nat) : qT := ((Qk q, Qs q, k, fun y => if y < 5 * k then Qd q y else 0), b, -1, 0, -1)
theorem trQ_all {V : mV} {e : Nat} {q : qT} {b : Int32} (h : isQn V e q) : (trQ q b (Qm q)).1 = q.1 := by
  obtain ⟨⟨k, s, m, d⟩, r⟩ := q
  have h8 := h.2.2.2.2.2.2.2.2
  show (k, s, m, fun y => if y < 5 * m then d y else 0) = (k, s, m, d)
  have : (fun y => if y < 5 * m then d y else 0) = d := funext (fun y => by
    by_cases c : y < 5 * m
    · rw [if_pos c]
    · rw [if_neg c]
      exact (h8 y (Nat.le_of_not_lt c)).symm)
  rw [this]
theorem trQ_0 {q : qT} {b : Int32} : newQ (Qk q) (Qs q) b = trQ q b 0 := rfl
theorem trQ_up {q : qT} {b : Int32} {k : Nat} {x : Nat → Int32} (hx : ∀ c, c < 5 → x c = Qd q (5 * k + c)) : qIt (trQ q b k) (k + 1) (addD (trQ q b k) k x) = trQ q b (k + 1) := by
  have : addD (trQ q b k) k x = fun y => if y < 5 * (k + 1) then Qd q y else 0 := funext (fun y => by
    unfold addD
    show (if 5 * k ≤ y ∧ y < 5 * k + 5 then x (y - 5 * k) else if y < 5 * k then Qd q y else 0) = _
    by_cases c : 5 * k ≤ y ∧ y < 5 * k + 5
    · rw [if_pos c, if_pos (by omega), hx _ (by omega), show 5 * k + (y - 5 * k) = y by omega]
    · rw [if_neg c]
      by_cases c2 : y < 5 * k
      · rw [if_pos c2, if_pos (by omega)]
      · rw [if_neg c2, if_neg (by omega)])
  unfold qIt
  rw [this]
  rfl
theorem five_at {d : Nat → Int32} {k : Nat} : ∀ c, c < 5 → five (d (5 * k + 0)) (d (5 * k + 1)) (d (5 * k + 2)) (d (5 * k + 3)) (d (5 * k + 4)) c = d (5 * k + c) := fun c hc => by
  rcases (show c = 0 ∨ c = 1 ∨ c = 2 ∨ c = 3 ∨ c = 4 by omega) with e | e | e | e | e <;> subst e <;> rfl
theorem csQ_c {Q Q2 : Nat → qT} : ∀ n, (∀ j, j < n → bnd Q2 j = bnd Q j ∧ (Q2 j).1 = (Q j).1) → csQ Q2 n = csQ Q n
  | 0, _ => rfl
  | n + 1, h => by
    rw [csQ, csQ, csQ_c n (fun j hj => h j (by omega)), (h n (by omega)).1]
    unfold aTo aRp aRw
    rw [ansT_c (h n (by omega)).2]
theorem tr_new {q : qT} {b : Int32} {k : Nat} (h : okIt q) (hk : k < Qm q) : itNew (trQ q b k) k (five (Qd q (5 * k + 0)) (Qd q (5 * k + 1)) (Qd q (5 * k + 2)) (Qd q (5 * k + 3)) (Qd q (5 * k + 4))) ∧ k < mostN (Qk q) (Qs q) := by
  obtain ⟨h1, h2, h3, h4, h5, h6⟩ := id h
  have hi4 : Qk q = 3 ∨ Qk q = 5 → Qs q ≤ 4 := fun c => by
    rcases c with e | e <;> rw [e] at h3 <;> exact h3
  refine ⟨⟨(itK_c (fun j hj => (five_at j hj).symm) h.s9 hi4).mp (h5 k hk), fun hk02 o ho ne => ?_⟩, by omega⟩
  have ho : o < k := ho
  have eA : cA (Qd (trQ q b k)) o = cA (Qd q) o := by
    show (if 5 * o < 5 * k then Qd q (5 * o) else 0).toNatClampNeg = _
    rw [if_pos (by omega)]
    rfl
  have eB : cB (Qd (trQ q b k)) o = cB (Qd q) o := by
    show (if 5 * o + 1 < 5 * k then Qd q (5 * o + 1) else 0).toNatClampNeg = _
    rw [if_pos (by omega)]
    rfl
  rw [eA, eB]
  intro c
  exact ne (h6 hk02 o k (by omega) hk c)
theorem T_isAnew_go {G : wkG} {F n a c : Nat} {Q : Nat → qT} (hF : 2 ^ 34 ≤ F) : ∀ k', (∀ i Ln V Lm U Q2, (n - i) * 20 + 1 ≤ k' → i ≤ n → bST Ln V n Q → bST Lm U i Q2 → (∀ j, j < i → Q2 j = trQ (Q j) (bnd Q j) (Qm (Q j))) → Lm 3000 = 0 → Ln 3000 = a → Ln 3001 = c → mTo (mL_isAnew_go G F k' 0 Ln Lm (nI i) 0 V U) (fun p => p.1 = 1 ∧ bST p.2.1 p.2.2.1 n Q ∧ p.2.1 3000 = a ∧ p.2.1 3001 = c)) ∧ (∀ i k Ln V Lm U Q2, (n - (i + 1)) * 20 + (Qm (Q i) - k) + 2 ≤ k' → i < n → k ≤ Qm (Q i) → bST Ln V n Q → bST Lm U (i + 1) Q2 → (∀ j, j < i → Q2 j = trQ (Q j) (bnd Q j) (Qm (Q j))) → Q2 i = trQ (Q i) (bnd Q i) k → Lm 3000 = 0 → Ln 3000 = a → Ln 3001 = c → mTo (mL_isAnew_go G F k' 1 Ln Lm (nI i) (nI k) V U) (fun p => p.1 = 1 ∧ bST p.2.1 p.2.2.1 n Q ∧ p.2.1 3000 = a ∧ p.2.1 3001 = c)) := by
  intro k'
  induction k' with
  | zero => exact ⟨fun i Ln V Lm U Q2 h => by omega, fun i k Ln V Lm U Q2 h => by omega⟩
  | succ k' ih =>
    obtain ⟨ih0, ih1⟩ := ih
    refine ⟨fun i Ln V Lm U Q2 hk hi hI hJ hQ hm ha hc => ?_, fun i k Ln V Lm U Q2 hk hi hkm hI hJ hQ hQi hm ha hc => ?_⟩
    · have n12 := hI.1.1.2.1
      rw [mL_isAnew_go, if_pos rfl]
      unfold mL_isAnew_b0
      refine T_iN (T_entries hI.1.1.1) ?_
      refine mTo.ite (fun h => ?_) (fun h => ?_)
      · rw [lg_cmp_ge, i64_le, i64_of, i64_of, nI_toInt (by omega), nI_toInt (by omega)] at h
        have e : i = n := by omega
        subst e
        refine mTo.A (T_checksum hF hJ.1) (fun v1 L1 U1 _ h1 => ?_)
        refine mTo.A (T_checksum hF hI.1) (fun v2 L2 V2 _ h2 => ?_)
        obtain ⟨h1, _⟩ := h1
        obtain ⟨h2, h3⟩ := h2
        have h1 : v1 = csQ Q2 i := h1
        have h2 : v2 = csQ Q i := h2
        have h3 : lkP Ln V i Q L2 V2 := h3
        have e : csQ Q2 i = csQ Q i := csQ_c i (fun j hj => by
          rw [hQ j hj]
          refine ⟨?_, trQ_all (hI.1.1.2.2.1 j hj).1⟩
          rw [bnd_end (by rw [hQ j hj]; exact (by decide : (-1 : Int32) < 0)), hQ j hj]
          rfl)
        rw [h1, h2, if_pos ((lg_cmp_eq _ _).mpr e)]
        have t := h3.1.th
        exact mTo.ret ⟨rfl, lkP.st hI h3, by rw [← ha]; exact t.1, by rw [← hc]; exact t.2⟩
      · rw [lg_cmp_ge, i64_le, i64_of, i64_of, nI_toInt (by omega), nI_toInt (by omega)] at h
        have lt : i < n := by omega
        obtain ⟨qa, qb, qc⟩ := hI.1.1.2.2.1 i lt
        refine mTo.A (T_kindOf (G := G) (F := F) (Ln := Ln) hI.1.1 lt) (fun v1 L1 V1 _ h1 => ?_)
        cases h1
        refine mTo.A (T_sizeOf (G := G) (F := F) (Ln := Ln) hI.1.1 lt) (fun v2 L2 V2 _ h2 => ?_)
        cases h2
        refine mTo.A (T_boundOf hF hI.1 lt) (fun v3 L3 V3 _ h3 => ?_)
        obtain ⟨h3, h4, _⟩ := h3
        have h3 : v3 = Int32.toInt64 (bnd Q i) := h3
        have h4 : lkP Ln V n Q L3 V3 := h4
        rw [h3, lt_back _ qb.1, i64_32, i64_32]
        refine mTo.A (T_open hF hJ (by omega) qb.1 qb.2.1 qb.2.2.1 (bnd_b n12 lt hI.1.1.2.2.2 qb.1 qc)) (fun v5 L5 U5 _ h => ?_)
        obtain ⟨o1, o2, o3⟩ := h
        have o1 : v5 = Int32.toInt64 (nI i) := o1
        have o3 : L5 = Lm := o3
        rw [o1, if_pos ((lg_cmp_eq _ _).mpr rfl)]
        have t := h4.1.th
        have m16 := qb.m16
        refine ih1 i 0 L3 V3 L5 U5 _ (by omega) lt (Nat.zero_le _) (lkP.st hI h4) o2 (fun j hj => by rw [mUp_ne _ _ (by omega)]; exact hQ j hj) (by rw [mUp_eq]; exact trQ_0) (by rw [o3]; exact hm) (by rw [t.1, ha]) (by rw [t.2, hc])
    · have n12 := hI.1.1.2.1
      obtain ⟨qa, qb, qc⟩ := hI.1.1.2.2.1 i hi
      have m16 := qb.m16
      rw [mL_isAnew_go, if_neg (by decide), if_pos rfl]
      unfold mL_isAnew_b1
      refine mTo.A (T_items (G := G) (F := F) (Ln := Ln) hI.1.1 hi) (fun v1 L1 V1 _ h1 => ?_)
      cases h1
      refine mTo.ite (fun h => ?_) (fun h => ?_)
      · rw [lg_cmp_ge, i64_le, i64_of, i64_of, nI_toInt (by omega), nI_toInt (by omega)] at h
        have ek : k = Qm (Q i) := by omega
        subst ek
        have all := trQ_all (b := bnd Q i) qa
        have be : bnd Q2 i = bnd Q i := by
          rw [bnd_end (by rw [hQi]; exact (by decide : (-1 : Int32) < 0)), hQi]
          rfl
        have an : ∀ b, ansT (Q2 i) b = ansT (Q i) b := fun b => ansT_c (by rw [hQi]; exact all)
        refine mTo.A (T_answer hF hJ.1 (Nat.lt_succ_self i)) (fun v2 L2 U2 _ h2 => ?_)
        obtain ⟨h2, k2, _⟩ := h2
        have h2 : v2 = Int32.toInt64 (aRp (Q2 i) (bnd Q2 i)) := h2
        have k2 : lkP Lm U (i + 1) Q2 L2 U2 := k2
        refine mTo.A (T_answer hF hI.1 hi) (fun v3 L3 V3 _ h3 => ?_)
        obtain ⟨h3, k3, _⟩ := h3
        have h3 : v3 = Int32.toInt64 (aRp (Q i) (bnd Q i)) := h3
        have k3 : lkP Ln V n Q L3 V3 := k3
        have e23 : v2 = v3 := by rw [h2, h3, be]; unfold aRp; rw [an]
        rw [if_pos ((lg_cmp_eq _ _).mpr e23)]
        refine mTo.A (T_number hF k2.2.1 (Nat.lt_succ_self i)) (fun v4 L4 U4 _ h4 => ?_)
        obtain ⟨h4, k4, _⟩ := h4
        have h4 : v4 = Int32.toInt64 (aTo (Q2 i) (bnd Q2 i)) := h4
        have k4 : lkP L2 U2 (i + 1) Q2 L4 U4 := k4
        refine mTo.A (T_number hF k3.2.1 hi) (fun v5 L5 V5 _ h5 => ?_)
        obtain ⟨h5, k5, _⟩ := h5
        have h5 : v5 = Int32.toInt64 (aTo (Q i) (bnd Q i)) := h5
        have k5 : lkP L3 V3 n Q L5 V5 := k5
        have e45 : v4 = v5 := by rw [h4, h5, be]; unfold aTo; rw [an]
        rw [if_pos ((lg_cmp_eq _ _).mpr e45)]
        refine mTo.A (T_rowSum hF k4.2.1 (Nat.lt_succ_self i)) (fun v6 L6 U6 _ h6 => ?_)
        obtain ⟨h6, k6, _⟩ := h6
        have h6 : v6 = rwSum (aRw (Q2 i) (bnd Q2 i)) := h6
        have k6 : lkP L4 U4 (i + 1) Q2 L6 U6 := k6
        refine mTo.A (T_rowSum hF k5.2.1 hi) (fun v7 L7 V7 _ h7 => ?_)
        obtain ⟨h7, k7, _⟩ := h7
        have h7 : v7 = rwSum (aRw (Q i) (bnd Q i)) := h7
        have k7 : lkP L5 V5 n Q L7 V7 := k7
        have e67 : v6 = v7 := by rw [h6, h7, be]; unfold aRw; rw [an]
        rw [if_pos ((lg_cmp_eq _ _).mpr e67), nI_1]
        have KU := (k2.tr k4).tr k6
        have KV := (k3.tr k5).tr k7
        have tU := KU.1.th
        have tV := KV.1.th
        refine mTo.lt (ih0 (i + 1) L7 V7 L6 U6 Q2 (by omega) (by omega) (lkP.st hI KV) (lkP.st hJ KU) (fun j hj => ?_) (by rw [tU.1, hm]) (by rw [tV.1, ha]) (by rw [tV.2, hc]))
        by_cases z : j = i
        · rw [z]
          exact hQi
        · exact hQ j (by omega)
      · rw [lg_cmp_ge, i64_le, i64_of, i64_of, nI_toInt (by omega), nI_toInt (by omega)] at h
        have lt : k < Qm (Q i) := by omega
        refine mTo.A (T_item1 (G := G) (F := F) (Ln := Ln) (k := 0) hI.1.1 hi lt (by decide)) (fun v2 L2 V2 _ h2 => ?_)
        cases h2
        refine mTo.A (T_item1 (G := G) (F := F) (Ln := Ln) (k := 1) hI.1.1 hi lt (by decide)) (fun v3 L3 V3 _ h3 => ?_)
        cases h3
        refine mTo.A (T_item1 (G := G) (F := F) (Ln := Ln) (k := 2) hI.1.1 hi lt (by decide)) (fun v4 L4 V4 _ h4 => ?_)
        cases h4
        refine mTo.A (T_item1 (G := G) (F := F) (Ln := Ln) (k := 3) hI.1.1 hi lt (by decide)) (fun v5 L5 V5 _ h5 => ?_)
        cases h5
        refine mTo.A (T_item1 (G := G) (F := F) (Ln := Ln) (k := 4) hI.1.1 hi lt (by decide)) (fun v6 L6 V6 _ h6 => ?_)
        cases h6
        rw [i64_32, i64_32, i64_32, i64_32, i64_32]
        obtain ⟨nw, mst⟩ := tr_new (b := bnd Q i) qb lt
        refine mTo.A (T_put hF hJ (Nat.lt_succ_self i) (by rw [hm]; decide) rfl) (fun v7 L7 U7 _ h7 => ?_)
        rcases h7 with ⟨_, _, p1, p2, _, p3⟩ | ⟨p0, _⟩
        · have p1 : v7 = Int32.toInt64 (nI (Qm (Q2 i) + 1)) := p1
          have p3 : L7 = Lm := p3
          have em : Qm (Q2 i) = k := by rw [hQi]; rfl
          rw [p1, em, nI_1, if_pos ((lg_cmp_eq _ _).mpr rfl)]
          refine mTo.lt (ih1 i (k + 1) Ln V L7 U7 _ (by omega) hi (by omega) hI p2 (fun j hj => by rw [mUp_ne _ _ (by omega)]; exact hQ j hj) ?_ (by rw [p3]; exact hm) ha hc)
          rw [mUp_eq, em, hQi]
          exact trQ_up (fun c hc => five_at c hc)
        · refine absurd ⟨?_, ?_⟩ p0
          · rw [hQi]
            exact nw
          · rw [hQi]
            exact mst
theorem bST.t1 {Ln : Nat → Nat} {V : mV} {n x : Nat} {Q : Nat → qT} (h : bST Ln V n Q) : bST (va_up Ln 3001 x) V n Q := ⟨(h.1.fr (w := fun a => a = 3001) mAv.rf (mAl.up mAl.rf rfl) rfl (fun i _ h2 _ c => by omega)).1, h.2.1.fr (w := fun a => a = 3001) mAv.rf (mAl.up mAl.rf rfl) (by decide) (by decide) (by decide) ⟨by decide, by decide⟩ (fun j hj => ⟨by omega, by omega⟩) (fun z hz => by omega), h.2.2⟩
theorem T_isAnew {G : wkG} {F n : Nat} {Q : Nat → qT} {Ln : Nat → Nat} {V : mV} (hF : 2 ^ 34 ≤ F) (hI : bST Ln V n Q) (h2 : Ln 3001 < 2) : mTo (mL_isAnew G F Ln V) (fun p => p.1 = 1 ∧ bST p.2.1 p.2.2 n Q ∧ p.2.1 3000 = Ln 3000 ∧ p.2.1 3001 = Ln 3001 + 1) := by
  have n12 := hI.1.1.2.1
  unfold mL_isAnew
  rw [if_neg (fun c => c ⟨h2, by omega⟩)]
  obtain ⟨p, e, q1, q2, q3, q4⟩ := (T_isAnew_go (G := G) (F := F) (n := n) (a := Ln 3000) (c := Ln 3001 + 1) (Q := Q) hF F).1 0 (va_up Ln 3001 (Ln 3001 + 1)) V mLn0 mV0 (fun _ => newQ 0 0 0) (by omega) (Nat.zero_le _) hI.t1 (st_new (fun _ _ => rfl) rfl) (fun j hj => absurd hj (Nat.not_lt_zero _)) rfl (mUp_ne _ _ (by decide)) (mUp_eq _ _ _)
  have e : mL_isAnew_go G F F 0 (va_up Ln 3001 (Ln 3001 + 1)) mLn0 0 0 V mV0 = some p := e
  rw [e]
  exact ⟨_, rfl, q1, q2, q3, q4⟩
end
