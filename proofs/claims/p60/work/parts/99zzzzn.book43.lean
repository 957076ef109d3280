/-! REDUCTIONS: a pairing becomes clauses, the whole. -/
section
abbrev shr (A B : Nat → Nat) (i j : Nat) : Prop := A i = A j ∨ A i = B j ∨ B i = A j ∨ B i = B j
def PR (m : Nat) (A B : Nat → Nat) (one other : Nat) (T : Nat) : Prop := ∀ i j, i < j → j < m → (i < one ∨ (i = one ∧ j < other)) → shr A B i j → ¬ (T.testBit i = true ∧ T.testBit j = true)
def PC (m s : Nat) (A B : Nat → Nat) (T : Nat) : Prop := ∀ v, v < s → ∃ j, j < m ∧ T.testBit j = true ∧ (A j = v ∨ B j = v)
theorem ng1 : ∀ j, j < 7 → -nI j - (1 : Int32) = -nI (j + 1) ∧ (-nI j).toInt = -(j : Int) := by decide
theorem two_neg {m i j T : Nat} (hm : m ≤ 6) (hi : i < m) (hj : j < m) : bk (five (-nI (i + 1)) (-nI (j + 1)) 0 0 0) m T 0 = false ↔ ¬ (T.testBit i = true ∧ T.testBit j = true) := by
  have e0 : bkI (five (-nI (i + 1)) (-nI (j + 1)) 0 0 0) m T 0 0 = T.testBit i := bkI_n hm hi rfl
  have e1 : bkI (five (-nI (i + 1)) (-nI (j + 1)) 0 0 0) m T 0 1 = T.testBit j := bkI_n hm hj rfl
  have e2 : bkI (five (-nI (i + 1)) (-nI (j + 1)) 0 0 0) m T 0 2 = true := bkI_0 rfl
  unfold bk
  rw [e0, e1, e2]
  cases T.testBit i <;> cases T.testBit j <;> decide
theorem two_rw {m i j : Nat} (hm : m ≤ 6) (hi : i < m) (hj : j < m) : rw4 m (five (-nI (i + 1)) (-nI (j + 1)) 0 0 0) := by
  refine ⟨fun k hk => ?_, fun z => ?_⟩
  · rcases (show k = 0 ∨ k = 1 ∨ k = 2 by omega) with e | e | e <;> subst e
    · show (-nI (i + 1)).toInt.natAbs ≤ m
      rw [(ng1 (i + 1) (by omega)).2]
      omega
    · show (-nI (j + 1)).toInt.natAbs ≤ m
      rw [(ng1 (j + 1) (by omega)).2]
      omega
    · exact Nat.zero_le _
  · have z : -nI (i + 1) = 0 := z.1
    have := (ng1 (i + 1) (by omega)).2
    rw [z] at this
    have e0 : (0 : Int32).toInt = 0 := rfl
    omega
theorem T_cEdge {F e s m b : Nat} {d : Nat → Int32} {A B : Nat → Nat} {V : mV} (hF : 2 ^ 22 ≤ F) (he : 256 ≤ e) (he2 : e < 540) (h0 : 0 < s) (hs : s ≤ 9) (hm : m ≤ 16) (hb : b ≤ 9) (hq : enQ V e s m (nI b) d) (hd : ∀ i, i < m → d (5 * i) = nI (A i) ∧ d (5 * i + 1) = nI (B i) ∧ A i < s ∧ B i < s ∧ A i ≠ B i) : mTo (mX4_carriesEdges F e 544 V) (fun p => (p.1 = 1 ∧ b = 0 ∧ 1 ≤ m ∧ m ≤ 6 ∧ ∃ q, isQn p.2 544 q ∧ Qm q ≤ 12 ∧ sIn m q (fun T => PC m s A B T ∧ PR m A B m 0 T)) ∨ p.1 = 0) := by
  unfold mX4_carriesEdges mX4_carriesEdges_s
  refine mTo.lt ?_
  rw [hq.2.1, hq.2.2.1]
  refine mTo.eqI (b := 0) rfl rfl (by omega) (by decide) (fun eb => ?_) (fun _ => mTo.ret (Or.inr rfl))
  refine mTo.ltI (b := 1) rfl rfl (by omega) (by decide) (fun _ => mTo.ret (Or.inr rfl)) (fun m1 => ?_)
  rw [if_neg (by decide), show wkTab 1 ((4 : Int32)).toNatClampNeg = nI 6 from rfl]
  refine mTo.le rfl rfl (by omega) (by decide) (fun m6 => ?_) (fun _ => mTo.ret (Or.inr rfl))
  refine mTo.W (T_begin3 (F := F) (e := 544) (k := 4) (s := m) (b := nI m) (V := V)) (fun _ V2 _ h => ?_)
  obtain ⟨b1, _, b3⟩ := h
  have b1 : isQn V2 544 (newQ 4 m (nI m)) := b1
  have b3 : mAv (fun i => i = 544) V V2 := b3
  have hq2 := hq.mv b3 (by omega) (by omega)
  have go12 : ∀ k', (∀ o q V3, (m - o) * 20 + 1 ≤ k' → o ≤ m → enQ V3 e s m (nI b) d → isQn V3 544 q → sIn m q (fun T => PC m s A B T ∧ PR m A B o 0 T) → mTo (mX4_carriesEdges_go F k' 1 e 544 (nI m) (nI o) 0 V3) (fun p => (p.1 = 1 ∧ b = 0 ∧ 1 ≤ m ∧ m ≤ 6 ∧ ∃ q, isQn p.2 544 q ∧ Qm q ≤ 12 ∧ sIn m q (fun T => PC m s A B T ∧ PR m A B m 0 T)) ∨ p.1 = 0)) ∧ (∀ o t q V3, (m - (o + 1)) * 20 + (m - t) + 2 ≤ k' → o < m → o < t → t ≤ m → enQ V3 e s m (nI b) d → isQn V3 544 q → sIn m q (fun T => PC m s A B T ∧ PR m A B o t T) → mTo (mX4_carriesEdges_go F k' 2 e 544 (nI m) (nI o) (nI t) V3) (fun p => (p.1 = 1 ∧ b = 0 ∧ 1 ≤ m ∧ m ≤ 6 ∧ ∃ q, isQn p.2 544 q ∧ Qm q ≤ 12 ∧ sIn m q (fun T => PC m s A B T ∧ PR m A B m 0 T)) ∨ p.1 = 0)) := by
    intro k'
    induction k' with
    | zero => exact ⟨fun o q V3 h => by omega, fun o t q V3 h => by omega⟩
    | succ k' ih =>
      obtain ⟨ih1, ih2⟩ := ih
      refine ⟨fun o q V3 hk ho q3 d3 s3 => ?_, fun o t q V3 hk ho hot ht q3 d3 s3 => ?_⟩
      · rw [mX4_carriesEdges_go, if_neg (by decide), if_pos rfl]
        unfold mX4_carriesEdges_b1
        refine mTo.le rfl rfl (by omega) (by omega) (fun z => ?_) (fun z => ?_)
        · have eo : o = m := by omega
          subst eo
          rw [if_neg (by decide), show wkTab 4 ((4 : Int32)).toNatClampNeg = nI 12 from rfl]
          have q16 := s3.2.2.2.1
          refine mTo.ltI rfl d3.2.2.2.2.2.2.1 (by decide) (by omega) (fun _ => mTo.ret (Or.inr rfl)) (fun z2 => mTo.ret (Or.inl ⟨rfl, eb, m1, m6, q, d3, z2, s3⟩))
        · rw [nI_1]
          refine mTo.lt (ih2 o (o + 1) q V3 (by omega) z (by omega) (by omega) q3 d3 (s3.cg (fun T _ => ?_)))
          refine and_congr_right (fun _ => ⟨fun h i j hij hj hor => h i j hij hj (hor.imp id (fun y => by omega)), fun h i j hij hj hor => h i j hij hj (hor.imp id (fun y => by omega))⟩)
      · rw [mX4_carriesEdges_go, if_neg (by decide), if_neg (by decide), if_pos rfl]
        unfold mX4_carriesEdges_b2
        refine mTo.le rfl rfl (by omega) (by omega) (fun z => ?_) (fun z => ?_)
        · have et : t = m := by omega
          subst et
          rw [nI_1]
          refine mTo.lt (ih1 (o + 1) q V3 (by omega) (by omega) q3 d3 (s3.cg (fun T _ => ?_)))
          refine and_congr_right (fun _ => ⟨fun h i j hij hj hor => h i j hij hj (by omega), fun h i j hij hj hor => h i j hij hj (by omega)⟩)
        · obtain ⟨x0, x1, xa, xb, xne⟩ := hd t z
          obtain ⟨y0, y1, ya, yb, yne⟩ := hd o ho
          refine T_iN (T_item q3.2.1 (by omega) z (show 0 < 5 by decide) rfl ((q3.2.2.2 _ (by omega)).trans x0)) ?_
          refine T_iN (T_item q3.2.1 (by omega) z (show 1 < 5 by decide) rfl ((q3.2.2.2 _ (by omega)).trans x1)) (mTo.lt ?_)
          rw [nb_one (by omega), nb_one (by omega), nb_or]
          have s9 : ∀ a, a < s → 2 ^ a < 2 ^ 9 := fun a ha => nb_p2 (by omega)
          have lo := nb_or_lt (s9 _ xa) (s9 _ xb)
          have bit : ∀ c, (2 ^ A t ||| 2 ^ B t).testBit c = true ↔ A t = c ∨ B t = c := fun c => by rw [or_t, nb_pow, nb_pow, decide_eq_true_eq, decide_eq_true_eq]
          refine T_iN (T_item q3.2.1 (by omega) ho (show 0 < 5 by decide) rfl ((q3.2.2.2 _ (by omega)).trans y0)) ?_
          rw [nI_1, (ng1 o (by omega)).1, (ng1 t (by omega)).1]
          have yes : shr A B o t → mTo (mBW (mX3_addItem F 544 (-nI (o + 1)) (-nI (t + 1)) ((0 : Int32)) V3) fun v37 V38 => (mLt (nI (t + 1)) fun x42 => (mX4_carriesEdges_go F k' 2 e 544 (nI m) (nI o) (x42) V38))) (fun p => (p.1 = 1 ∧ b = 0 ∧ 1 ≤ m ∧ m ≤ 6 ∧ ∃ q, isQn p.2 544 q ∧ Qm q ≤ 12 ∧ sIn m q (fun T => PC m s A B T ∧ PR m A B m 0 T)) ∨ p.1 = 0) := fun sh => by
            have q16 := s3.2.2.2.1
            rcases Nat.lt_or_ge (Qm q) 16 with w | w
            · refine mTo.W (T_addItem d3 (by omega)) (fun _ V4 _ h => mTo.lt ?_)
              obtain ⟨g1, g2⟩ := h
              have g2 : mAv (fun i => i = 544 ∨ i = 545) V3 V4 := g2
              refine ih2 o (t + 1) _ V4 (by omega) ho (by omega) (by omega) (q3.mv g2 (by omega) (by omega)) g1 ((s3.add (by omega) (two_rw m6 ho z) (fun T _ => two_neg m6 ho z)).cg (fun T _ => ?_))
              refine ⟨fun ⟨⟨h1, h2⟩, h3⟩ => ⟨h1, fun i j hij hj hor hs => ?_⟩, fun ⟨h1, h2⟩ => ⟨⟨h1, fun i j hij hj hor => h2 i j hij hj (by omega)⟩, h2 o t hot z (Or.inr ⟨rfl, Nat.lt_succ_self t⟩) sh⟩⟩
              by_cases c : i = o ∧ j = t
              · rw [c.1, c.2]
                exact h3
              · exact h2 i j hij hj (by omega) hs
            · exact T_iW (T_addFull d3 (by omega)) (mTo.lt (ih2 o (t + 1) q V3 (by omega) ho (by omega) (by omega) q3 d3 (s3.full (by omega))))
          have no : ¬ shr A B o t → mTo (mLt (nI (t + 1)) fun x54 => (mX4_carriesEdges_go F k' 2 e 544 (nI m) (nI o) (x54) V3)) (fun p => (p.1 = 1 ∧ b = 0 ∧ 1 ≤ m ∧ m ≤ 6 ∧ ∃ q, isQn p.2 544 q ∧ Qm q ≤ 12 ∧ sIn m q (fun T => PC m s A B T ∧ PR m A B m 0 T)) ∨ p.1 = 0) := fun sh => by
            refine mTo.lt (ih2 o (t + 1) q V3 (by omega) ho (by omega) (by omega) q3 d3 (s3.cg (fun T _ => ?_)))
            refine and_congr_right (fun _ => ⟨fun h i j hij hj hor hs => ?_, fun h i j hij hj hor => h i j hij hj (by omega)⟩)
            by_cases c : i = o ∧ j = t
            · rw [c.1, c.2] at hs
              exact absurd hs sh
            · exact h i j hij hj (by omega) hs
          refine mTo.hs rfl rfl (by omega) (by omega) (fun n1 => ?_) (fun c1 => ?_)
          · refine T_iN (T_item q3.2.1 (by omega) ho (show 1 < 5 by decide) rfl ((q3.2.2.2 _ (by omega)).trans y1)) ?_
            refine mTo.hs rfl rfl (by omega) (by omega) (fun n2 => no (fun c => ?_)) (fun c2 => yes ?_)
            · have n1 : ¬ (A t = A o ∨ B t = A o) := fun w => by rw [(bit _).mpr w] at n1; cases n1
              have n2 : ¬ (A t = B o ∨ B t = B o) := fun w => by rw [(bit _).mpr w] at n2; cases n2
              rcases c with c | c | c | c
              · exact n1 (Or.inl c.symm)
              · exact n1 (Or.inr c.symm)
              · exact n2 (Or.inl c.symm)
              · exact n2 (Or.inr c.symm)
            · rcases (bit _).mp c2 with c | c
              · exact Or.inr (Or.inr (Or.inl c.symm))
              · exact Or.inr (Or.inr (Or.inr c.symm))
          · refine yes ?_
            rcases (bit _).mp c1 with c | c
            · exact Or.inl c.symm
            · exact Or.inr (Or.inl c.symm)
  have go0 : ∀ k' v q V3, s + 130 < v + k' → v ≤ s → enQ V3 e s m (nI b) d → isQn V3 544 q → sIn m q (fun T => ∀ u, u < v → ∃ j, j < m ∧ T.testBit j = true ∧ (A j = u ∨ B j = u)) → mTo (mX4_carriesEdges_go F k' 0 e 544 (nI m) (nI v) 0 V3) (fun p => (p.1 = 1 ∧ b = 0 ∧ 1 ≤ m ∧ m ≤ 6 ∧ ∃ q, isQn p.2 544 q ∧ Qm q ≤ 12 ∧ sIn m q (fun T => PC m s A B T ∧ PR m A B m 0 T)) ∨ p.1 = 0) := by
    intro k'
    induction k' with
    | zero => intro v q V3 h1 h2; omega
    | succ k' ih =>
      intro v q V3 k1 k2 q3 d3 s3
      rw [mX4_carriesEdges_go, if_pos rfl]
      unfold mX4_carriesEdges_b0
      refine mTo.le q3.1 rfl (by omega) (by omega) (fun z => ?_) (fun z => ?_)
      · have ev : v = s := by omega
        subst ev
        refine (go12 k').1 0 q V3 (by omega) (Nat.zero_le _) q3 d3 (s3.cg (fun T _ => ⟨fun h => ⟨h, fun i j _ _ hor => by omega⟩, fun h => h.1⟩))
      · refine mTo.W (T_addSome (by omega) he he2 m6 hs z q3 hd d3 s3) (fun v1 V4 _ h => ?_)
        obtain ⟨h, g2⟩ := h
        have g2 : mAv (fun i => i = 544 ∨ i = 545) V3 V4 := g2
        rcases h with h | ⟨h, q', g1, g3⟩
        · have h : v1 = 0 := h
          rw [if_pos h]
          exact mTo.ret (Or.inr rfl)
        · have h : v1 = 1 := h
          rw [h, if_neg (by decide), nI_1]
          refine mTo.lt (ih (v + 1) q' V4 (by omega) (by omega) (q3.mv g2 (by omega) (by omega)) g1 (g3.cg (fun T _ => ⟨fun ⟨h1, h2⟩ u hu => ?_, fun h => ⟨fun u hu => h u (by omega), h v (Nat.lt_succ_self v)⟩⟩)))
          by_cases c : u = v
          · rw [c]
            exact h2
          · exact h1 u (by omega)
  refine go0 F 0 (newQ 4 m (nI m)) V2 (by omega) (Nat.zero_le _) hq2 b1 ⟨rfl, rfl, rfl, Nat.zero_le _, fun _ => ⟨fun i hi => absurd hi (Nat.not_lt_zero _), fun T _ => ⟨fun _ u hu => absurd hu (Nat.not_lt_zero _), fun _ i hi => absurd hi (Nat.not_lt_zero _)⟩⟩⟩
end
