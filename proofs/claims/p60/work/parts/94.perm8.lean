/-! THE PURE PART, permutations: the solver, as the machine runs. -/
section
theorem T_writeItems {F r s t u : Nat} {Ln : Nat → Nat} {P : Nat → Nat → Nat} {p : bgT} {V : mV} (hF : 2 ^ 14 ≤ F) (hk : mK r = 9) (hr : 256 ≤ r) (hs : s ≤ 6) (ht : t ≤ 5) (hP : ∀ c, 1 ≤ c → c ≤ t → isP s (P c)) (hB : bgB P s t p) (hS : bgS V p) (hR : rowIs Ln V r []) (hu : p.2.1 u ≠ 0) : mTo (mX10_writeItems F Ln (nI u) r V) (fun q => rowIs q.2.1 q.2.2 r (tkR (ptL p.2.1 p.2.2 720 u) (ptL p.2.1 p.2.2 720 u).length)) := by
  have le := bgB_le hB
  have fb := (fac_b s (by omega)).1
  have go1 : ∀ (l : List Nat), l.length ≤ 720 → ∀ k' i n Ln (V : mV), i < k' → i + n = l.length → (∀ x, x < l.length → V.rI 79 x = nI (l.getD x 0)) → rowIs Ln V r (tkR l n) → mTo (mX10_writeItems_go F k' 1 Ln r 0 0 (nI i - 1) V) (fun q => rowIs q.2.1 q.2.2 r (tkR l l.length)) := by
    intro l hl k'
    induction k' with
    | zero => intro i n Ln V h1; omega
    | succ k ih =>
      intro i n Ln V h1 h2 hQ hR
      rw [mX10_writeItems_go, if_neg (by decide), if_pos rfl]
      unfold mX10_writeItems_b1
      cases i with
      | zero =>
        rw [if_pos (by decide)]
        have : n = l.length := by omega
        subst this
        exact mTo.ret hR
      | succ i =>
        rw [nI_pred, if_neg (nI_pos (by omega))]
        refine mTo.ix rfl (by omega) (by omega) ?_
        have v79 : V.rI 79 (nI i).toNatClampNeg = nI (l.getD (l.length - 1 - n) 0) := by
          rw [nI_clamp (by omega), hQ i (by omega), show l.length - 1 - n = i by omega]
        rw [v79]
        refine mTo.A (T_radd hk hR (by rw [tkR_len]; omega)) (fun a L1 V1 _ q => mTo.lt ?_)
        obtain ⟨q1, q2, _⟩ := q
        have q2 : mAv (wX9_add r) V V1 := q2
        rw [nI_m1']
        exact ih i (n + 1) L1 V1 (by omega) (by omega) (fun x hx => by rw [(q2.1 79 (by unfold wX9_add; omega)).2.2.1]; exact hQ x hx) q1
  have go0 : ∀ k' k j (l0 : List Nat) (V : mV), 800 + j < k' → j < p.1.length → j ≤ k → l0.length + j ≤ 719 → (∀ x, x < l0.length → V.rI 79 x = nI (l0.getD x 0)) → (∀ x, x < 720 → V.rI 81 x = nI (p.2.1 x) - 1) → (∀ x, x < 720 → p.2.1 x ≠ 0 → x ≠ 0 → V.rI 80 x = nI (p.2.2 x)) → rowIs Ln V r [] → mTo (mX10_writeItems_go F k' 0 Ln r (nI l0.length) (nI (p.1.getD j 0)) 0 V) (fun q => rowIs q.2.1 q.2.2 r (tkR (l0 ++ ptL p.2.1 p.2.2 k (p.1.getD j 0)) (l0 ++ ptL p.2.1 p.2.2 k (p.1.getD j 0)).length)) := by
    intro k'
    induction k' with
    | zero => intro k j l0 V h1; omega
    | succ k' ih =>
      intro k j l0 V h1 hj hjk hl hQ h81 h80 hR
      have uj := (hB.1 j hj).1
      rw [mX10_writeItems_go, if_pos rfl]
      unfold mX10_writeItems_b0
      by_cases z : j = 0
      · subst z
        rw [hB.2.2.2.1.1.2.1, if_pos (show nI 0 = 0 from rfl)]
        have e0 : ptL p.2.1 p.2.2 k 0 = [] := by
          cases k with
          | zero => rfl
          | succ k => rw [ptL, if_pos rfl]
        rw [e0, List.append_nil]
        exact go1 l0 (by omega) k' l0.length 0 Ln V (by omega) (Nat.add_zero _) hQ hR
      · have ne : p.1.getD j 0 ≠ 0 := fun e => hB.2.2.1 0 j (by omega) hj (by rw [hB.2.2.2.1.1.2.1, e])
        obtain ⟨i, i1, i2, c, c1, c2, c3, c4⟩ := hB.2.2.2.1.2 j (by omega) hj
        obtain ⟨k, rfl⟩ : ∃ x, k = x + 1 := ⟨k - 1, by omega⟩
        rw [ptL, if_neg ne, i2, c3, Nat.add_sub_cancel]
        have u0 := (hB.1 j hj).2
        generalize hu : p.1.getD j 0 = u at *
        have cu : (nI u).toNatClampNeg = u := nI_clamp (by omega)
        have cl : (nI l0.length).toNatClampNeg = l0.length := nI_clamp (by omega)
        refine mTo.eqI (b := 0) rfl rfl (by omega) (by omega) (fun e => absurd e ne) (fun _ => mTo.le (a := 720) rfl rfl (by omega) (by omega) (fun y => by omega) (fun _ => mTo.ix rfl (by omega) (by omega) (mTo.ix rfl (by omega) (by omega) (mTo.lt (mTo.lt (mTo.ix rfl (by omega) (by omega) (mTo.lt ?_)))))))
        have v81 : V.rI 81 (nI u).toNatClampNeg = nI c := by rw [cu, h81 u (by omega), c3, nI_pred]
        have v80 : (mI V 79 (nI l0.length) (V.rI 81 (nI u).toNatClampNeg)).rI 80 (nI u).toNatClampNeg = nI (p.1.getD i 0) := by rw [mI_no (by decide), cu, h80 u (by omega) u0 ne, i2]
        rw [v80, v81, nI_1]
        have ln : l0.length + 1 = (l0 ++ [c]).length := by rw [List.length_append]; rfl
        have g := ih k i (l0 ++ [c]) (mI V 79 (nI l0.length) (nI c)) (by omega) (by omega) (by omega) (by omega) (fun x hx => ?_) (fun x hx => by rw [mI_no (by decide)]; exact h81 x hx) (fun x hx h1 h2 => by rw [mI_no (by decide)]; exact h80 x hx h1 h2) ⟨hR.1, hR.2.1, hR.2.2.1, fun t ht => absurd ht (Nat.not_lt_zero _)⟩
        · rw [← ln, List.append_assoc] at g
          exact g
        · rw [mI_at cl, getDN_snoc]
          rw [← ln] at hx
          by_cases w : x = l0.length
          · rw [if_pos w, if_neg (by omega), if_pos w]
          · rw [if_neg w, if_pos (by omega)]
            exact hQ x (by omega)
  obtain ⟨j, j1, j2⟩ := hB.2.1 u hu
  unfold mX10_writeItems mX10_writeItems_s
  have g := go0 F 720 j [] V (by omega) j1 (by omega) (by show 0 + j ≤ 719; omega) (fun x hx => absurd hx (Nat.not_lt_zero _)) hS.2.1 hS.2.2 hR
  rw [j2] at g
  exact g
theorem T_writeRows {F r s t lu : Nat} {Ln : Nat → Nat} {P : Nat → Nat → Nat} {G : Nat → Nat} {p : bgT} {V : mV} (hF : 2 ^ 14 ≤ F) (hk : mK r = 9) (hr : 256 ≤ r) (h0 : 0 < s) (hs : s ≤ 6) (hG : isP s G) (hB : bgB P s t p) (ht : t ≤ 5) (hS : bgS V p) (hM : pmS V s lu P G) (hR : rowIs Ln V r []) (hn : p.2.1 (rk s G) = 0) : mTo (mX10_writeRows F Ln r V) (fun q => rowIs q.2.1 q.2.2 r (rwG p.2.1 s (stK p.2.1 G s (s - 1) 1) 720)) := by
  have hC : ∀ x, p.2.1 x ≠ 0 → x < fac s := fun x hx => by
    obtain ⟨i, i1, i2⟩ := hB.2.1 x hx
    rw [← i2]
    exact (hB.1 i i1).1
  have fb := (fac_b s (by omega)).1
  have clr : ∀ Ln (V : mV) xs, rowIs Ln V r xs → rowIs Ln (mF V r 1 0) r [] := fun Ln V xs h => ⟨mF_at, Nat.zero_le _, h.2.2.1, fun i hi => absurd hi (Nat.not_lt_zero _)⟩
  obtain ⟨M, hM1, hM2⟩ : ∃ M, 730 ≤ M ∧ M ≤ 730 := ⟨730, Nat.le_refl _, Nat.le_refl _⟩
  have go : ∀ k', (∀ dd k xs Ln (V : mV), dd * M + 731 ≤ k' → k + dd = s → 1 ≤ k → V.fI 7 10 = nI s → rowP V 76 s G → (∀ x, x < 720 → V.rI 81 x = nI (p.2.1 x) - 1) → rowIs Ln V r xs → mTo (mX10_writeRows_go F k' 0 Ln r (nI k) 0 V) (fun q => rowIs q.2.1 q.2.2 r (rwG p.2.1 s (stK p.2.1 G s dd k) 720))) ∧ (∀ dd k n Ln (V : mV), dd * M + (720 - n) + 3 ≤ k' → k + dd = s → 1 ≤ k → n ≤ 720 → V.fI 7 10 = nI s → rowP V 76 s G → (∀ x, x < 720 → V.rI 81 x = nI (p.2.1 x) - 1) → rowIs Ln V r (rwG p.2.1 s k n) → mTo (mX10_writeRows_go F k' 1 Ln r (nI k) (nI n) V) (fun q => rowIs q.2.1 q.2.2 r (rwG p.2.1 s (stK p.2.1 G s dd k) 720))) := by
    intro k'
    induction k' with
    | zero => exact ⟨fun dd k xs Ln V h => by omega, fun dd k n Ln V h => by omega⟩
    | succ k' ih =>
      obtain ⟨ih0, ih1⟩ := ih
      refine ⟨fun dd k xs Ln V h1 h2 h3 h10 hg h81 hR => ?_, fun dd k n Ln V h1 h2 h3 h4 h10 hg h81 hR => ?_⟩
      · rw [mX10_writeRows_go, if_pos rfl]
        unfold mX10_writeRows_b0
        refine mTo.ltI h10 rfl (by omega) (by omega) (fun z => by omega) (fun _ => ?_)
        unfold mX9_clear
        refine mTo.W (Q := fun q => q.2 = mF V r 1 0) ⟨_, rfl, rfl⟩ (fun a V1 _ q => ?_)
        have q : V1 = mF V r 1 0 := q
        subst q
        refine mTo.A (T_radd hk (clr _ _ _ hR) (by show 0 < 1024; omega)) (fun a L1 V1 _ q => ?_)
        obtain ⟨q1, q2, _⟩ := q
        have q2 : mAv (wX9_add r) (mF V r 1 0) V1 := q2
        have f7 := (q2.1 7 (by unfold wX9_add; omega)).1
        refine ih1 dd k 0 L1 V1 (by omega) h2 h3 (Nat.zero_le _) (by rw [f7, mF_no (Or.inl (by omega))]; exact h10) (fun x hx => by rw [(q2.1 76 (by unfold wX9_add; omega)).2.2.1]; exact hg x hx) (fun x hx => by rw [(q2.1 81 (by unfold wX9_add; omega)).2.2.1]; exact h81 x hx) q1
      · obtain ⟨⟨l1, l2, l3⟩, a, b, rr⟩ := rwG_in (C := p.2.1) (k := k) hs (by omega) hC n
        rw [mX10_writeRows_go, if_neg (by decide), if_pos rfl]
        unfold mX10_writeRows_b1
        refine mTo.le (a := 720) rfl rfl (by omega) (by omega) (fun z => ?_) (fun z => mTo.ix rfl (by omega) (by omega) ?_)
        · have : n = 720 := by omega
          subst this
          refine mTo.so (T_codeOf6 (F := F) (a := 76) (p := G) (by omega) rfl (by omega) hs hg) (mTo.N (T_holds1 (F := F) (by omega) hR (by omega) rr) (fun w _ q => mTo.tf q (fun w0 => mTo.ret ?_) (fun w1 => mTo.lt ?_)))
          · show rowIs Ln V r (rwG p.2.1 s (stK p.2.1 G s dd k) 720)
            cases dd with
            | zero => exact hR
            | succ dd =>
              rw [stK, if_neg w0]
              exact hR
          · cases dd with
            | zero =>
              have : k = s := by omega
              subst this
              exact absurd w1 (no_all hs hB hG hn)
            | succ dd =>
              have em : (dd + 1) * M = dd * M + M := Nat.succ_mul dd M
              rw [stK, if_pos w1, nI_1]
              exact ih0 dd (k + 1) _ Ln V (by omega) (by omega) (by omega) h10 hg h81 hR
        · have cn : (nI n).toNatClampNeg = n := nI_clamp (by omega)
          rw [show V.rI 81 (nI n).toNatClampNeg = nI (p.2.1 n) - 1 by rw [cn]; exact h81 n z]
          have lx := hB.2.2.2.2 n
          have nn := nI_m1_neg (x := p.2.1 n) (by omega)
          have g := ih1 dd k (n + 1)
          rw [rwG] at g
          refine mTo.ite (fun y => mTo.lt ?_) (fun y => ?_)
          · have c0 : p.2.1 n = 0 := Classical.byContradiction fun w => by
              have q1 := i32le.mp (nn.mpr w)
              have q2 := i32lt.mp y
              omega
            rw [if_pos c0] at g
            rw [nI_1]
            exact g Ln V (by omega) h2 h3 (by omega) h10 hg h81 hR
          · have c0 : p.2.1 n ≠ 0 := fun w => y (by rw [w]; decide)
            rw [if_neg c0] at g
            have fn := hC n c0
            have d := dc_P hs fn
            have cb := cdN_b (p := dcP s n) (k := k) (by omega) (fun j hj => by have := d.1 j (by omega); omega)
            refine mTo.W (T_writePoints (F := F) (a := 77) (by omega) rfl (by decide) h0 hs (by omega) h10) (fun x V1 _ q => ?_)
            obtain ⟨q1, q2⟩ := q
            have q2 : mAv (wX10_writePoints 77) V V1 := q2
            have hR1 := hR.mv q2 (by unfold wX10_writePoints; omega) (by unfold wX10_writePoints; omega)
            have h10' : V1.fI 7 10 = nI s := by rw [(q2.1 7 (by unfold wX10_writePoints; omega)).1]; exact h10
            have hg' : rowP V1 76 s G := fun x hx => by rw [(q2.1 76 (by unfold wX10_writePoints; omega)).2.2.1]; exact hg x hx
            have h81' : ∀ x, x < 720 → V1.rI 81 x = nI (p.2.1 x) - 1 := fun x hx => by rw [(q2.1 81 (by unfold wX10_writePoints; omega)).2.2.1]; exact h81 x hx
            refine mTo.so (T_codeOf6 (F := F) (a := 77) (p := dcP s n) (by omega) rfl (by omega) hs q1) ?_
            have add : ((rwG p.2.1 s k n).length = 1 ∨ (rwG p.2.1 s k n).getD ((rwG p.2.1 s k n).length - 1) 0 ≠ nI (cdN (dcP s n) k)) → mTo (mBA (mX9_add F Ln r (nI (cdN (dcP s n) k)) V1) fun v39 L40 V40 => (mLt (nI n + (1 : Int32)) fun x44 => (mX10_writeRows_go F k' 1 L40 r (nI k) (x44) V40))) (fun q => rowIs q.2.1 q.2.2 r (rwG p.2.1 s (stK p.2.1 G s dd k) 720)) := fun hc => by
              rw [if_pos hc] at g
              refine mTo.A (T_radd hk hR1 (by omega)) (fun a L2 V2 _ q => mTo.lt ?_)
              obtain ⟨q3, q4, _⟩ := q
              have q4 : mAv (wX9_add r) V1 V2 := q4
              rw [nI_1]
              exact g L2 V2 (by omega) h2 h3 (by omega) (by rw [(q4.1 7 (by unfold wX9_add; omega)).1]; exact h10') (fun x hx => by rw [(q4.1 76 (by unfold wX9_add; omega)).2.2.1]; exact hg' x hx) (fun x hx => by rw [(q4.1 81 (by unfold wX9_add; omega)).2.2.1]; exact h81' x hx) q3
            refine mTo.eqI (b := 1) hR1.1 rfl (by omega) (by omega) (fun e => add (Or.inl e)) (fun e => ?_)
            rw [hR1.1, show nI (rwG p.2.1 s k n).length - 1 = nI ((rwG p.2.1 s k n).length - 1) by
              obtain ⟨x, hx⟩ : ∃ x, (rwG p.2.1 s k n).length = x + 1 := ⟨(rwG p.2.1 s k n).length - 1, by omega⟩
              rw [hx, nI_pred, Nat.add_sub_cancel]]
            refine mTo.so (T_rAt hR1 (by omega)) (mTo.ite (fun w => mTo.lt ?_) (fun w => add (Or.inr w)))
            rw [if_neg (fun q => q.elim e (fun q => q w))] at g
            rw [nI_1]
            exact g Ln V1 (by omega) h2 h3 (by omega) h10' hg' h81' hR1
  unfold mX10_writeRows mX10_writeRows_s
  have sM : (s - 1) * M ≤ 5 * M := Nat.mul_le_mul_right _ (by omega)
  exact (go F).1 (s - 1) 1 [] Ln V (by omega) (by omega) (Nat.le_refl _) hM.1 hM.2.2.2 hS.2.1 hR
theorem T_solvePermutations {F e s m b : Nat} {Ln : Nat → Nat} {P : Nat → Nat → Nat} {d : Nat → Int32} {V : mV} (hF : 2 ^ 22 ≤ F) (he : 256 ≤ e) (he2 : e < 1024) (hk : mK (e + 2) = 9) (h0 : 0 < s) (hs : s ≤ 6) (hm : m ≤ 5) (hb : b < 2 ^ 20) (hd : qG d m s P) (hq : enQ V e s m (nI b) d) (hR : rowIs Ln V (e + 2) []) : mTo (mX10_solvePermutations F Ln e V) (fun p => (yesG P (goalP m P) s (luN m b - 1) → p.2.2.fI e 11 = 121) ∧ (¬ yesG P (goalP m P) s (luN m b - 1) → p.2.2.fI e 11 = 110) ∧ p.2.2.fI e 12 = nI (bgA P s (luN m b - 1)).1.length ∧ rowIs p.2.1 p.2.2 (e + 2) (rowG P (goalP m P) s (luN m b - 1))) := by
  have lm : luN m b ≤ m := by
    unfold luN
    by_cases z : m < b + 1
    · rw [if_pos z]
      omega
    · rw [if_neg z]
      omega
  have hP : ∀ c, 1 ≤ c → c ≤ luN m b - 1 → isP s (P c) := fun c h1 h2 => (hd c (by omega)).2.1
  have pG := goal_P hd
  have fb := (fac_b s (by omega)).1
  obtain ⟨hB, _⟩ := bgA_ok hs hP
  unfold mX10_solvePermutations
  obtain ⟨p0, e0, r1, r2, r3, r4⟩ := T_reachAll hF he h0 hs hm hb hd hq
  refine mTo.W (Q := fun q => q.1 = nI (bgA P s (luN m b - 1)).1.length ∧ bgS q.2 (bgA P s (luN m b - 1)) ∧ pmS q.2 s (luN m b) P (goalP m P) ∧ mAv (wX10_reachAll e) V q.2) ⟨p0, e0, r1, r2, r3, r4⟩ (fun a V1 _ q => ?_)
  obtain ⟨q1, q2, q3, q4⟩ := q
  have q1 : a = nI (bgA P s (luN m b - 1)).1.length := q1
  have q2 : bgS V1 (bgA P s (luN m b - 1)) := q2
  have q3 : pmS V1 s (luN m b) P (goalP m P) := q3
  have q4 : mAv (wX10_reachAll e) V V1 := q4
  have hR1 := hR.mv q4 (by unfold wX10_reachAll; omega) (by unfold wX10_reachAll; omega)
  obtain ⟨rl, _⟩ := rk_ok hs pG
  refine mTo.so (T_rankOf (F := F) (p := goalP m P) (by omega) rfl hs q3.1 (fun i hi => by have := pG.1 i hi; omega) q3.2.2.2) (mTo.ix rfl (by omega) (by omega) ?_)
  rw [show V1.rI 81 (nI (rk s (goalP m P))).toNatClampNeg = nI ((bgA P s (luN m b - 1)).2.1 (rk s (goalP m P))) - 1 by rw [nI_clamp (by omega)]; exact q2.2.1 _ (by omega), q1]
  have lx := hB.2.2.2.2 (rk s (goalP m P))
  have nn := nI_m1_neg (x := (bgA P s (luN m b - 1)).2.1 (rk s (goalP m P))) (by omega)
  have told : ∀ (x : Int32) {Q : Unit × mV → Prop}, (∀ V3 : mV, V3.fI e 11 = (if x = 0 then (110 : Int32) else 121) → V3.fI e 12 = nI (bgA P s (luN m b - 1)).1.length → bgS V3 (bgA P s (luN m b - 1)) → pmS V3 s (luN m b) P (goalP m P) → rowIs Ln V3 (e + 2) [] → Q ((), V3)) → mTo (mX3_tell F e x (nI (bgA P s (luN m b - 1)).1.length) V1) Q := fun x Q hQ => by
    obtain ⟨p, e1, t1, t2, t3, t4, _, t5⟩ := T_tell (F := F) (e := e) (x := x) (t := nI (bgA P s (luN m b - 1)).1.length) (V := V1)
    refine ⟨p, e1, ?_⟩
    have f7 : p.2.fI 7 = V1.fI 7 := t5 7 (by omega)
    refine hQ p.2 t1 t2 ⟨fun i hi => by rw [t4]; exact q2.1 i hi, fun y hy => by rw [t4]; exact q2.2.1 y hy, fun y hy h1 h2 => by rw [t4]; exact q2.2.2 y hy h1 h2⟩ ⟨by rw [f7]; exact q3.1, by rw [f7]; exact q3.2.1, fun i hi y hy => by rw [t4]; exact q3.2.2.1 i hi y hy, fun y hy => by rw [t4]; exact q3.2.2.2 y hy⟩ ?_
    obtain ⟨a1, a2, a3, a4⟩ := hR1
    exact ⟨by rw [t5 _ (by omega)]; exact a1, a2, a3, fun i hi => by rw [t4]; exact a4 i hi⟩
  refine mTo.ite (fun y => ?_) (fun y => ?_)
  · have c0 : (bgA P s (luN m b - 1)).2.1 (rk s (goalP m P)) = 0 := Classical.byContradiction fun w => by
      have z1 := i32le.mp (nn.mpr w)
      have z2 := i32lt.mp y
      omega
    have no : ¬ yesG P (goalP m P) s (luN m b - 1) := fun w => w c0
    refine mTo.W (Q := fun q => q.2.fI e 11 = (110 : Int32) ∧ q.2.fI e 12 = nI (bgA P s (luN m b - 1)).1.length ∧ bgS q.2 (bgA P s (luN m b - 1)) ∧ pmS q.2 s (luN m b) P (goalP m P) ∧ rowIs Ln q.2 (e + 2) []) (told 0 (fun V3 h1 h2 h3 h4 h5 => ⟨by rw [h1, if_pos rfl], h2, h3, h4, h5⟩)) (fun x V3 _ q => ?_)
    obtain ⟨t1, t2, t3, t4, t5⟩ := q
    have t1 : V3.fI e 11 = 110 := t1
    have t2 : V3.fI e 12 = _ := t2
    obtain ⟨p5, e5, g5⟩ := T_writeRows (F := F) (r := e + 2) (by omega) hk (by omega) h0 hs pG hB (by omega) t3 t4 t5 c0
    have fr2 := (NX10_writeRows (v := p5.1) (Ln1 := p5.2.1) (V1 := p5.2.2) e5).1
    have fe : p5.2.2.fI e = V3.fI e := (fr2.1 e (by unfold wX10_writeRows; omega)).1
    refine mTo.A (Q := fun p => rowIs p.2.1 p.2.2 (e + 2) (rwG (bgA P s (luN m b - 1)).2.1 s (stK (bgA P s (luN m b - 1)).2.1 (goalP m P) s (s - 1) 1) 720)) ⟨p5, e5, g5⟩ (fun a L6 V6 h6 q' => mTo.ret ?_)
    rw [e5] at h6
    cases h6
    refine ⟨fun w => absurd w no, fun _ => by rw [fe, t1], by rw [fe, t2], ?_⟩
    unfold rowG
    rw [if_neg no]
    exact q'
  · have c0 : (bgA P s (luN m b - 1)).2.1 (rk s (goalP m P)) ≠ 0 := fun w => y (by rw [w]; decide)
    refine mTo.W (Q := fun q => q.2.fI e 11 = (121 : Int32) ∧ q.2.fI e 12 = nI (bgA P s (luN m b - 1)).1.length ∧ bgS q.2 (bgA P s (luN m b - 1)) ∧ pmS q.2 s (luN m b) P (goalP m P) ∧ rowIs Ln q.2 (e + 2) []) (told 1 (fun V3 h1 h2 h3 h4 h5 => ⟨by rw [h1, if_neg (by decide)], h2, h3, h4, h5⟩)) (fun x V3 _ q => ?_)
    obtain ⟨t1, t2, t3, t4, t5⟩ := q
    have t1 : V3.fI e 11 = 121 := t1
    have t2 : V3.fI e 12 = _ := t2
    obtain ⟨p5, e5, g5⟩ := T_writeItems (F := F) (r := e + 2) (u := rk s (goalP m P)) (by omega) hk (by omega) hs (by omega) hP hB t3 t5 c0
    have fr2 := (NX10_writeItems (v := p5.1) (Ln1 := p5.2.1) (V1 := p5.2.2) e5).1
    have fe : p5.2.2.fI e = V3.fI e := (fr2.1 e (by unfold wX10_writeItems; omega)).1
    refine mTo.A (Q := fun p => rowIs p.2.1 p.2.2 (e + 2) (tkR (pthG P (goalP m P) s (luN m b - 1)) (pthG P (goalP m P) s (luN m b - 1)).length)) ⟨p5, e5, g5⟩ (fun a L6 V6 h6 q' => mTo.ret ?_)
    rw [e5] at h6
    cases h6
    refine ⟨fun _ => by rw [fe, t1], fun w => absurd c0 w, by rw [fe, t2], ?_⟩
    unfold rowG
    rw [if_pos c0]
    exact q'
end
