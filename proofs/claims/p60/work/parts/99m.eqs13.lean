/-! THE PURE PART, equations: the solver. -/
section
theorem T_fillJ {F a N : Nat} {x : Int64} {V : mV} (hF : 2 ^ 21 ≤ F) (hN : mLen a = N) (hN2 : N < 2 ^ 20) : mTo (mJ7_fill_d0a16 F a x V) (fun p => ∀ i, p.2.rJ a i = if i < N then x else V.rJ a i) := by
  have go : ∀ k' j (V1 : mV), N < j + k' → j ≤ N → (∀ i, V1.rJ a i = if i < j then x else V.rJ a i) → mTo (mJ7_fill_d0a16_go F k' 0 a x (nI j) (nI N) V1) (fun p => ∀ i, p.2.rJ a i = if i < N then x else V.rJ a i) := by
    intro k'
    induction k' with
    | zero => intro j V1 h; omega
    | succ k ih =>
      intro j V1 h1 h2 h3
      rw [mJ7_fill_d0a16_go, if_pos rfl]
      unfold mJ7_fill_d0a16_b0
      refine mTo.le rfl rfl (by omega) (by omega) (fun z => mTo.ret ?_) (fun z => ?_)
      · have : j = N := by omega
        subst this
        exact h3
      · rw [hN]
        refine mTo.ix rfl z (by omega) (mTo.lt (mTo.lt ?_))
        rw [nI_1]
        refine ih (j + 1) _ (by omega) (by omega) (fun i => ?_)
        rw [mJ_at (nI_clamp (by omega)), h3 i]
        by_cases e : i = j
        · rw [if_pos e, if_pos (by omega)]
        · rw [if_neg e]
          by_cases f : i < j
          · rw [if_pos f, if_pos (by omega)]
          · rw [if_neg f, if_neg (by omega)]
  unfold mJ7_fill_d0a16 mJ7_fill_d0a16_s
  rw [hN]
  refine mTo.lt ?_
  exact go F 0 V (by omega) (Nat.zero_le _) (fun i => (if_neg (by omega)).symm)
def rD (d : Nat → Int32) (m : Nat) (b : Int32) (i : Nat) : Int := (rS d m b i).toInt
theorem aD_6 {d : Nat → Int32} {s m : Nat} {b : Int32} (h : qD d s m b) : qA6 (aD d s m) s := by
  refine ⟨fun i k => ?_, fun i k hk => if_neg (by omega)⟩
  unfold aD
  by_cases e : k < s
  · rw [if_pos e]
    unfold aV
    by_cases f : i < m
    · rw [if_pos f]
      exact (h.1 i f).1 k e
    · rw [if_neg f]
      decide
  · rw [if_neg e]
    decide
theorem rD_40 {d : Nat → Int32} {s m : Nat} {b : Int32} (h : qD d s m b) (i : Nat) : (rD d m b i).natAbs ≤ 40 := by
  unfold rD rS
  by_cases z : i + 1 = m
  · rw [if_pos z]
    exact h.2
  · rw [if_neg z]
    unfold aV
    by_cases f : i < m
    · rw [if_pos f]
      have := (h.1 i f).2
      omega
    · rw [if_neg f]
      decide
theorem aD_z {d : Nat → Int32} {s m i : Nat} (h : m ≤ i) (k : Nat) : aD d s m i k = 0 := by
  unfold aD aV
  rw [if_neg (show ¬ i < m by omega)]
  by_cases e : k < s
  · rw [if_pos e]; rfl
  · rw [if_neg e]
theorem rD_z {d : Nat → Int32} {m i : Nat} {b : Int32} (h : m ≤ i) : rD d m b i = 0 := by
  unfold rD rS aV
  rw [if_neg (by omega), if_neg (by omega)]
  rfl
theorem fp_up {A : Nat → Nat → Int} {R : Nat → Int} {s i n : Nat} {B : Nat → Nat → Int} {P : Nat → Int} (h : fpI A R s i n B P) (hA : ∀ k, A i k = 0) (hR : R i = 0) : fpI A R s (i + 1) n B P := by
  have z : ∀ w, dlin (A i) w = 0 := fun w => by
    unfold dlin
    rw [hA, hA, hA, hA]
    omega
  refine fp_same h gtS.rf (fun j hj => ?_) ?_
  · rw [fA_lin j hj]
    exact z _
  · rw [hR, z]
    rfl
theorem dsz_unit {c z : Nat → Int} {s k : Nat} (hs : s ≤ 4) (hk : k < 4) (h : ∀ k, s ≤ k → z k = 0) : z k = dsz s (fun i => z i * unit i k) := by
  have e : ∀ i, unit i k = unit k i := fun i => by
    unfold unit
    by_cases w : k = i
    · rw [if_pos w, if_pos w.symm]
    · rw [if_neg w, if_neg (fun y => w y.symm)]
  have := dlin_dsz (c := z) (z := unit k) hs h
  rw [unit_lin hk] at this
  rw [← this]
  exact dsz_congr s (fun i _ => by rw [e])
theorem fp_begin {A : Nat → Nat → Int} {R : Nat → Int} {s : Nat} (hs : s ≤ 4) : fpI A R s 0 s unit (fun _ => 0) := by
  refine ⟨fun j hj => ⟨unit_sup hj, fun l hl => absurd hl (Nat.not_lt_zero _)⟩, fun z hz => ⟨z, fun k hk => dsz_unit (c := z) hs hk hz.1⟩, fun j hj => absurd hj (Nat.not_lt_zero _), fun k _ => rfl, Or.inl ⟨rfl, fun j k _ => rfl, fun k => rfl⟩⟩
theorem T_findPoint {F e s m : Nat} {b : Int32} {d : Nat → Int32} {V : mV} (hF : 2 ^ 22 ≤ F) (he : 256 ≤ e) (he2 : e < 1024) (hs : s ≤ 4) (hm : m ≤ 2) (hd : qD d s m b) (hq : enQ V e s m b d) : mTo (mX8_findPoint F e V) (fun p => (p.1 = 1 ∧ ∃ n α B P, stD p.2 n α B P ∧ fpI (aD d s m) (rD d m b) s 2 n B P) ∨ (p.1 = 0 ∧ hitX (aD d s m) s (rD d m b))) := by
  have hA := aD_6 hd
  have hR : ∀ i, i < 2 → (rD d m b i).natAbs ≤ 40 := fun i _ => rD_40 hd i
  have go1 : ∀ k' i (V : mV) n α B P, m < i + k' → i ≤ m → enQ V e s m b d → stD V n α B P → fpI (aD d s m) (rD d m b) s i n B P → mTo (mX8_findPoint_go F k' 1 e (nI i) V) (fun p => (p.1 = 1 ∧ ∃ n α B P, stD p.2 n α B P ∧ fpI (aD d s m) (rD d m b) s 2 n B P) ∨ (p.1 = 0 ∧ hitX (aD d s m) s (rD d m b))) := by
    intro k'
    induction k' with
    | zero => intro i V n α B P h; omega
    | succ k ih =>
      intro i V n α B P h1 h2 hq hS hI
      rw [mX8_findPoint_go, if_neg (c := 1 = 0) (by decide), if_pos (c := 1 = 1) rfl]
      unfold mX8_findPoint_b1
      refine mTo.le hq.2.1 rfl (by omega) (by omega) (fun z => mTo.ret (Or.inl ⟨rfl, n, α, B, P, hS, ?_⟩)) (fun z => ?_)
      · have : i = m := by omega
        subst this
        rcases (by omega : i = 0 ∨ i = 1 ∨ i = 2) with rfl | rfl | rfl
        · exact fp_up (fp_up hI (aD_z (by omega)) (rD_z (by omega))) (aD_z (by omega)) (rD_z (by omega))
        · exact fp_up hI (aD_z (by omega)) (rD_z (by omega))
        · exact hI
      · obtain ⟨n4, rB, rP⟩ := fpI_r hs hI
        have mis : ((rS d m b i).toInt - dlin (aD d s m i) P).natAbs < 2 ^ 62 := by
          have a1 := dlin_r (z := P) (hA.1 i)
          have a2 : (rS d m b i).toInt.natAbs ≤ 40 := rD_40 hd i
          omega
        have am : ∀ j, j < n → (dlin (aD d s m i) (B j)).natAbs < 2 ^ 62 := fun j hj => by
          have a1 := dlin_r (z := B j) (hA.1 i)
          have a2 := rB j hj
          omega
        obtain ⟨p, e1, q⟩ := T_fulfil (F := F) (ix := nI i) (by omega) hs (by omega) (by omega) (by omega) rfl n4 hq hS mis am
        have fr := NX8_fulfilItem (v := p.1) (V1 := p.2) e1
        refine mTo.W (Q := fun r => r = p) ⟨p, e1, rfl⟩ (fun v V1 _ r => ?_)
        have ev : v = p.1 := congrArg Prod.fst r
        have eV : V1 = p.2 := congrArg Prod.snd r
        rw [ev, eV]
        have hq1 : enQ p.2 e s m b d := enQ.mv hq fr (by unfold wX8_fulfilItem; omega) (by unfold wX8_fulfilItem; omega)
        obtain ⟨α', B', g, q⟩ := q
        rcases q with ⟨az, ⟨v1, mz, hS1⟩ | ⟨v0, mn⟩⟩ | ⟨o, o1, o2, o3, ⟨v0, nd⟩ | ⟨t, v1, ht, hS1⟩⟩
        · rw [v1, if_neg (by decide)]
          refine mTo.lt ?_
          rw [nI_1]
          exact ih (i + 1) p.2 n α' B' P (by omega) (by omega) hq1 hS1 (fp_same hI g az mz)
        · rw [v0, if_pos rfl]
          exact mTo.ret (Or.inr ⟨rfl, fp_hit hA hs (by omega) hR hI g (Or.inl ⟨az, mn⟩)⟩)
        · rw [v0, if_pos rfl]
          exact mTo.ret (Or.inr ⟨rfl, fp_hit hA hs (by omega) hR hI g (Or.inr ⟨o, o1, o2, o3, nd⟩)⟩)
        · rw [v1, if_neg (by decide)]
          refine mTo.lt ?_
          rw [nI_1]
          exact ih (i + 1) p.2 (n - 1) α' (rmB n o B') _ (by omega) (by omega) hq1 hS1 (fp_next hA hs (by omega) hR hI g o1 o2 o3 ht)
  have go0 : ∀ k' i (V : mV), 8 < i + k' → i ≤ 4 → enQ V e s m b d → V.fI 6 3 = nI s → (∀ j k, j < i → k < 4 → V.rJ (56 + j) k = jO (unit j k)) → (∀ k, k < 4 → V.rJ 54 k = jO 0) → mTo (mX8_findPoint_go F k' 0 e (nI i) V) (fun p => (p.1 = 1 ∧ ∃ n α B P, stD p.2 n α B P ∧ fpI (aD d s m) (rD d m b) s 2 n B P) ∨ (p.1 = 0 ∧ hitX (aD d s m) s (rD d m b))) := by
    intro k'
    induction k' with
    | zero => intro i V h; omega
    | succ k ih =>
      intro i V h1 h2 hq h3 h4 h5
      rw [mX8_findPoint_go, if_pos (c := 0 = 0) rfl]
      unfold mX8_findPoint_b0
      refine mTo.le (a := 4) rfl rfl (by omega) (by omega) (fun z => ?_) (fun z => mTo.ix rfl (by omega) (by omega) ?_)
      · exact go1 k 0 V s (fun i => (V.rJ 60 i).toInt) unit (fun _ => 0) (by omega) (Nat.zero_le _) hq ⟨h3, fun i _ => (jO_toInt _).symm, fun j k hj hk => h4 j k (by omega) hk, fun k hk => h5 k hk⟩ (fp_begin hs)
      · rw [nI_clamp (n := i) (by omega)]
        have ml : mLen (56 + i) = 4 := by
          rcases (by omega : i = 0 ∨ i = 1 ∨ i = 2 ∨ i = 3) with rfl | rfl | rfl | rfl <;> decide
        obtain ⟨p, e1, q⟩ := T_fillJ (F := F) (a := 56 + i) (x := 0) (V := V) (by omega) ml (by omega)
        have fr := NJ7_fill_d0a16 (v := p.1) (V1 := p.2) e1
        refine mTo.W (Q := fun r => r = p) ⟨p, e1, rfl⟩ (fun v V1 _ r => mTo.ic rfl (by omega) (by omega) (mTo.ic rfl (by omega) (by omega) (mTo.lt (mTo.lt ?_))))
        have eV : V1 = p.2 := congrArg Prod.snd r
        rw [eV, nI_1]
        have nw : ∀ x, x ≠ 56 + i → ¬ wJ7_fill_d0a16 (56 + i) x := fun x hx y => hx y
        have hqq : enQ p.2 e s m b d := enQ.mv hq fr (nw _ (by omega)) (nw _ (by omega))
        refine ih (i + 1) _ (by omega) (by omega) hqq ?_ (fun j k hj hk => ?_) (fun k hk => ?_)
        · show p.2.fI 6 3 = _
          rw [(fr.1 6 (nw _ (by omega))).1]
          exact h3
        · by_cases w : j = i
          · subst w
            rw [mJ_at (nI_clamp (by omega)), q k, if_pos hk]
            unfold unit
            by_cases y : k = j
            · rw [if_pos y, if_pos y]
              rfl
            · rw [if_neg y, if_neg y]
              rfl
          · rw [mJ_no (by omega), (fr.1 _ (nw (56 + j) (by omega))).2.2.2]
            exact h4 j k (by omega) hk
        · rw [mJ_no (by omega), (fr.1 _ (nw 54 (by omega))).2.2.2]
          exact h5 k hk
  unfold mX8_findPoint mX8_findPoint_s
  refine mTo.lt ?_
  obtain ⟨p, e1, q⟩ := T_fillJ (F := F) (a := 54) (N := 4) (x := 0) (V := mF V 6 3 (V.fI e 1)) (by omega) (by decide) (by omega)
  have fr := NJ7_fill_d0a16 (v := p.1) (V1 := p.2) e1
  refine mTo.W (Q := fun r => r = p) ⟨p, e1, rfl⟩ (fun v V1 _ r => ?_)
  have eV : V1 = p.2 := congrArg Prod.snd r
  rw [eV]
  have nw : ∀ x, x ≠ 54 → ¬ wJ7_fill_d0a16 54 x := fun x hx y => hx y
  have hq0 : enQ (mF V 6 3 (V.fI e 1)) e s m b d := by
    obtain ⟨q1, q2, q3, q4⟩ := hq
    exact ⟨by rw [mF_no (Or.inl (by omega))]; exact q1, by rw [mF_no (Or.inl (by omega))]; exact q2, by rw [mF_no (Or.inl (by omega))]; exact q3, q4⟩
  refine go0 F 0 p.2 (by omega) (by omega) (enQ.mv hq0 fr (nw _ (by omega)) (nw _ (by omega))) ?_ (fun j k hj => absurd hj (Nat.not_lt_zero _)) (fun k hk => ?_)
  · rw [(fr.1 6 (nw _ (by omega))).1, mF_at]
    exact hq.1
  · rw [q k, if_pos hk]
    rfl
/-- is there a least point -/
def yesD (d : Nat → Int32) (s m : Nat) (b : Int32) : Prop := ∃ P, lstP (aD d s m) (rD d m b) s P
noncomputable def pntD (d : Nat → Int32) (s m : Nat) (b : Int32) : Nat → Int := @dite _ (yesD d s m b) (Classical.propDecidable _) (fun h => Classical.choose h) (fun _ _ => 0)
theorem pntD_is {d : Nat → Int32} {s m : Nat} {b : Int32} {P : Nat → Int} (h : lstP (aD d s m) (rD d m b) s P) : pntD d s m b = P := by
  unfold pntD
  have y : yesD d s m b := ⟨P, h⟩
  rw [dif_pos y]
  exact lst_uni (Classical.choose_spec y) h
def rwP (P : Nat → Int) : Nat → List Int32
  | 0 => []
  | k + 1 => rwP P k ++ [Int32.ofInt (P k)]
theorem rwP_len {P : Nat → Int} : ∀ n, (rwP P n).length = n
  | 0 => rfl
  | n + 1 => by
    rw [rwP, List.length_append, rwP_len n]
    rfl
theorem rwP_at {P : Nat → Int} {i : Nat} : ∀ n, i < n → (rwP P n).getD i 0 = Int32.ofInt (P i)
  | 0, h => absurd h (Nat.not_lt_zero _)
  | n + 1, h => by
    rw [rwP, getD_snoc, rwP_len]
    by_cases e : i < n
    · rw [if_pos e]
      exact rwP_at n e
    · have : i = n := by omega
      rw [if_neg e, if_pos this, this]
noncomputable def rowE (d : Nat → Int32) (s m : Nat) (b : Int32) : List Int32 := @ite _ (yesD d s m b) (Classical.propDecidable _) (rwP (pntD d s m b) s) (rowD m (srch (fX d s m b) 998 2))
theorem hit_no {d : Nat → Int32} {s m : Nat} {b : Int32} (hs : s ≤ 4) (h : hitX (aD d s m) s (rD d m b)) : ¬ yesD d s m b := by
  rintro ⟨P, p1, p2, _⟩
  obtain ⟨mo, _, _, x, y, h1, h2⟩ := h
  refine h2 ?_
  rw [← p2 0 (by omega), ← p2 1 (by omega)]
  have dv : ∀ k, (mo : Int) ∣ (x * aD d s m 0 k + y * aD d s m 1 k) * P k := fun k => by
    by_cases e : k < s
    · exact Int.dvd_mul_of_dvd_left (h1 k e)
    · rw [p1 k (by omega), Int.mul_zero]
      exact Int.dvd_zero _
  have e : x * dlin (aD d s m 0) P + y * dlin (aD d s m 1) P = (x * aD d s m 0 0 + y * aD d s m 1 0) * P 0 + (x * aD d s m 0 1 + y * aD d s m 1 1) * P 1 + (x * aD d s m 0 2 + y * aD d s m 1 2) * P 2 + (x * aD d s m 0 3 + y * aD d s m 1 3) * P 3 := by
    unfold dlin
    grind
  rw [e]
  exact Int.dvd_add (Int.dvd_add (Int.dvd_add (dv 0) (dv 1)) (dv 2)) (dv 3)
theorem to32 {x : Int} (h : x.natAbs < 2 ^ 30) : Int64.toInt32 (jO x) = Int32.ofInt x := by
  apply Int32.toInt_inj.mp
  rw [Int64.toInt32_ofInt]
theorem T_solveEquations {F e s m : Nat} {Ln : Nat → Nat} {b : Int32} {d : Nat → Int32} {V : mV} (hF : 2 ^ 34 ≤ F) (he : 256 ≤ e) (he2 : e < 1024) (hk : mK (e + 2) = 9) (hs : s ≤ 4) (hm : m ≤ 2) (hd : qD d s m b) (hq : enQ V e s m b d) (hR : rowIs Ln V (e + 2) []) : mTo (mX8_solveEquations F Ln e V) (fun p => (yesD d s m b → p.2.2.fI e 11 = 121 ∧ p.2.2.fI e 12 = 0) ∧ (¬ yesD d s m b → p.2.2.fI e 11 = 110 ∧ p.2.2.fI e 12 = (rowE d s m b).getD 0 0 ∧ hitX (aD d s m) s (rD d m b)) ∧ rowIs p.2.1 p.2.2 (e + 2) (rowE d s m b)) := by
  have hA := aD_6 hd
  have hR4 : ∀ i, i < 2 → (rD d m b i).natAbs ≤ 40 := fun i _ => rD_40 hd i
  unfold mX8_solveEquations mX8_solveEquations_s
  obtain ⟨p, e1, q⟩ := T_findPoint (F := F) (by omega) he he2 hs hm hd hq
  have fr := NX8_findPoint (v := p.1) (V1 := p.2) e1
  refine mTo.W (Q := fun r => r = p) ⟨p, e1, rfl⟩ (fun v V1 _ r => ?_)
  have ev : v = p.1 := congrArg Prod.fst r
  have eV : V1 = p.2 := congrArg Prod.snd r
  rw [ev, eV]
  have hq1 : enQ p.2 e s m b d := enQ.mv hq fr (by unfold wX8_findPoint; omega) (by unfold wX8_findPoint; omega)
  have hR1 : rowIs Ln p.2 (e + 2) [] := hR.mv fr (by unfold wX8_findPoint; omega) (by unfold wX8_findPoint; omega)
  rcases q with ⟨v1, n, α, B, P, hS, hI⟩ | ⟨v0, hx⟩
  · rw [v1, if_neg (by decide)]
    obtain ⟨r, r1, t1, t2, t3, t4, t4', t5⟩ := T_tell (F := F) (e := e) (x := 1) (t := 0) (V := p.2)
    refine mTo.W (Q := fun x => x = r) ⟨r, r1, rfl⟩ (fun v V1 _ r => ?_)
    have eV : V1 = _ := congrArg Prod.snd r
    rw [eV]
    clear eV
    rw [if_neg (by decide)] at t1
    have go1 : ∀ k' u Ln (V : mV), s < u + k' → u ≤ s → V.fI e 1 = nI s → V.fI e 11 = 121 → V.fI e 12 = 0 → (∃ n α B P, stD V n α B P ∧ lstP (aD d s m) (rD d m b) s P) → rowIs Ln V (e + 2) (rwP (pntD d s m b) u) → mTo (mX8_solveEquations_go F k' 1 Ln e (nI u) V) (fun p => (yesD d s m b → p.2.2.fI e 11 = 121 ∧ p.2.2.fI e 12 = 0) ∧ (¬ yesD d s m b → p.2.2.fI e 11 = 110 ∧ p.2.2.fI e 12 = (rowE d s m b).getD 0 0 ∧ hitX (aD d s m) s (rD d m b)) ∧ rowIs p.2.1 p.2.2 (e + 2) (rowE d s m b)) := by
      intro k'
      induction k' with
      | zero => intro u Ln V h; omega
      | succ k ih =>
        intro u Ln V c1 c2 c3 c4 c5 c6 c7
        obtain ⟨n, α, B, P, hS, hP⟩ := c6
        have yes : yesD d s m b := ⟨P, hP⟩
        rw [mX8_solveEquations_go, if_neg (c := 1 = 0) (by decide), if_pos (c := 1 = 1) rfl]
        unfold mX8_solveEquations_b1
        refine mTo.le c3 rfl (by omega) (by omega) (fun z => mTo.ret ⟨fun _ => ⟨c4, c5⟩, fun y => absurd yes y, ?_⟩) (fun z => mTo.ix rfl (by omega) (by omega) ?_)
        · have : u = s := by omega
          subst this
          unfold rowE
          rw [if_pos yes]
          exact c7
        · rw [nI_clamp (n := u) (by omega), hS.2.2.2 u (by omega), to32 (lst_32 hA hs hR4 hP u)]
          obtain ⟨r, r1, r2⟩ := T_radd (F := F) (v := Int32.ofInt (P u)) hk c7 (by rw [rwP_len]; omega)
          obtain ⟨r2, r3, r4⟩ := r2
          refine mTo.A (Q := fun x => x = r) ⟨r, r1, rfl⟩ (fun a L1 V1 _ x => mTo.lt ?_)
          have eL : L1 = r.2.1 := by rw [← x]
          have eV : V1 = r.2.2 := by rw [← x]
          rw [eL, eV, nI_1]
          have fe := (r3.1 e (by unfold wX9_add; omega)).1
          refine ih (u + 1) r.2.1 r.2.2 (by omega) (by omega) (by rw [fe]; exact c3) (by rw [fe]; exact c4) (by rw [fe]; exact c5) ⟨n, α, B, P, ⟨?_, fun i hi => ?_, fun i k hi hk => ?_, fun k hk => ?_⟩, hP⟩ ?_
          · rw [(r3.1 6 (by unfold wX9_add; omega)).1]
            exact hS.1
          · rw [(r3.1 60 (by unfold wX9_add; omega)).2.2.2]
            exact hS.2.1 i hi
          · rw [(r3.1 (56 + i) (by unfold wX9_add; omega)).2.2.2]
            exact hS.2.2.1 i k hi hk
          · rw [(r3.1 54 (by unfold wX9_add; omega)).2.2.2]
            exact hS.2.2.2 k hk
          · rw [rwP, pntD_is hP]
            rw [pntD_is hP] at r2
            exact r2
    have go0 : ∀ k' u Ln (V : mV), s + s + 2 < u + k' → u ≤ s → V.fI e 1 = nI s → V.fI e 11 = 121 → V.fI e 12 = 0 → (∃ n α B P, stD V n α B P ∧ tbI (aD d s m) (rD d m b) s u n B P) → rowIs Ln V (e + 2) [] → mTo (mX8_solveEquations_go F k' 0 Ln e (nI u) V) (fun p => (yesD d s m b → p.2.2.fI e 11 = 121 ∧ p.2.2.fI e 12 = 0) ∧ (¬ yesD d s m b → p.2.2.fI e 11 = 110 ∧ p.2.2.fI e 12 = (rowE d s m b).getD 0 0 ∧ hitX (aD d s m) s (rD d m b)) ∧ rowIs p.2.1 p.2.2 (e + 2) (rowE d s m b)) := by
      intro k'
      induction k' with
      | zero => intro u Ln V h; omega
      | succ k ih =>
        intro u Ln V c1 c2 c3 c4 c5 c6 c7
        obtain ⟨n, α, B, P, hS, hP⟩ := c6
        rw [mX8_solveEquations_go, if_pos (c := 0 = 0) rfl]
        unfold mX8_solveEquations_b0
        refine mTo.le c3 rfl (by omega) (by omega) (fun z => ?_) (fun z => ?_)
        · have : u = s := by omega
          subst this
          exact go1 k 0 Ln V (by omega) (Nat.zero_le _) c3 c4 c5 ⟨n, α, B, P, hS, ⟨hP.2.2.2.1, hP.2.2.1, hP.2.2.2.2.2⟩⟩ c7
        · obtain ⟨n4, sB, sP⟩ := szB_r hA hs hP
          obtain ⟨r, r1, r2⟩ := T_takeLeast (F := F) (ux := nI u) (by omega) n4 (by omega) rfl hS (by have := sP u (by omega); omega) (fun j hj => by have := sB j u hj (by omega); omega)
          have fr := NX8_takeLeastAmount (v := r.1) (V1 := r.2) r1
          refine mTo.W (Q := fun x => x = r) ⟨r, r1, rfl⟩ (fun v V1 _ x => mTo.lt ?_)
          have eV : V1 = r.2 := congrArg Prod.snd x
          rw [eV, nI_1]
          have fe := (fr.1 e (by unfold wX8_takeLeastAmount; omega)).1
          refine ih (u + 1) Ln r.2 (by omega) (by omega) (by rw [fe]; exact c3) (by rw [fe]; exact c4) (by rw [fe]; exact c5) ?_ (c7.mv fr (by unfold wX8_takeLeastAmount; omega) (by unfold wX8_takeLeastAmount; omega))
          obtain ⟨α', B', g, ⟨az, hS1⟩ | ⟨o, t, o1, o2, o3, o4, o5, hS1⟩⟩ := r2
          · exact ⟨n, α', B', P, hS1, tb_same hs z hP g az⟩
          · exact ⟨n - 1, α', rmB n o B', _, hS1, tb_next hA hs z hP g o1 o2 o3 o4 o5⟩
    refine go0 F 0 Ln _ (by omega) (Nat.zero_le _) ?_ t1 t2 ⟨n, α, B, P, ⟨?_, fun i hi => ?_, fun i k hi hk => ?_, fun k hk => ?_⟩, fp_tb hs hI⟩ ?_
    · rw [t3 1 (by omega) (by omega)]
      exact hq1.1
    · rw [t5 6 (by omega)]
      exact hS.1
    · rw [t4']
      exact hS.2.1 i hi
    · rw [t4']
      exact hS.2.2.1 i k hi hk
    · rw [t4']
      exact hS.2.2.2 k hk
    · obtain ⟨a1, a2, a3, a4⟩ := hR1
      exact ⟨by rw [t5 _ (by omega)]; exact a1, a2, a3, fun i hi => by rw [t4]; exact a4 i hi⟩
  · rw [v0, if_pos rfl]
    have no := hit_no hs hx
    have rw1 : rowE d s m b = rowD m (srch (fX d s m b) 998 2) := by
      unfold rowE
      rw [if_neg no]
    refine mTo.A (T_writeModulus (by omega) he he2 hk hs hm hd hq1 hR1) (fun a L1 V1 _ q => ?_)
    have q : rowIs L1 V1 (e + 2) (rowD m (srch (fX d s m b) 998 2)) := q
    refine mTo.so (T_rAt (j := 0) q (by omega)) ?_
    obtain ⟨r, r1, t1, t2, t3, t4, t4', t5⟩ := T_tell (F := F) (e := e) (x := 0) (t := (rowD m (srch (fX d s m b) 998 2)).getD 0 0) (V := V1)
    refine mTo.W (Q := fun x => x = r) ⟨r, r1, rfl⟩ (fun v V1 _ x => mTo.ret ?_)
    have eV : V1 = r.2 := congrArg Prod.snd x
    subst eV
    rw [if_pos rfl] at t1
    refine ⟨fun y => absurd y no, fun _ => ⟨t1, by rw [rw1]; exact t2, hx⟩, ?_⟩
    rw [rw1]
    obtain ⟨a1, a2, a3, a4⟩ := q
    exact ⟨by show r.2.fI _ _ = _; rw [t5 _ (by omega)]; exact a1, a2, a3, fun i hi => by show r.2.rI _ _ = _; rw [t4]; exact a4 i hi⟩
/-- the kept row is accepted -/
theorem rowE_yes {d : Nat → Int32} {s m : Nat} {b : Int32} (hs : s ≤ 4) (hm : m ≤ 2) (hd : qD d s m b) (h : yesD d s m b) : unkOK d s m b (rowE d s m b) := by
  obtain ⟨P, hP⟩ := h
  have p32 := lst_32 (aD_6 hd) hs (fun i _ => rD_40 hd i) hP
  unfold rowE
  rw [if_pos ⟨P, hP⟩, pntD_is hP]
  refine ⟨rwP_len s, fun i hi => ?_⟩
  have sm : ∀ u, u ≤ s → smD d m i (rwP P s) u = dsz u (fun k => aD d s m i k * P k) := by
    intro u
    induction u with
    | zero => exact fun _ => rfl
    | succ u ih =>
      intro hu
      rw [smD, dsz, ih (by omega), rwP_at s (by omega)]
      unfold aD
      have := p32 u
      rw [if_pos (show u < s by omega), Int32.toInt_ofInt_of_le (by omega) (by omega)]
  rw [sm s (Nat.le_refl _), dlin_dsz hs (fun k hk => (aD_6 hd).2 i k hk)]
  exact hP.2.1 i (by omega)
theorem srch_ok {α : Type} {f : Nat → Option α} : ∀ k i, (∃ j, i ≤ j ∧ j < i + k ∧ f j ≠ none) → srch f k i ≠ none
  | 0, i, ⟨j, h1, h2, _⟩ => by omega
  | k + 1, i, ⟨j, h1, h2, h3⟩ => by
    rw [srch]
    by_cases e : j = i
    · subst e
      cases q : f j with
      | none => exact absurd q h3
      | some a => exact fun z => by cases z
    · have := srch_ok (f := f) k (i + 1) ⟨j, by omega, by omega, h3⟩
      cases q : f i with
      | none => exact this
      | some a => exact fun z => by cases z
theorem srch_in {α : Type} {f : Nat → Option α} {a : α} : ∀ k i, srch f k i = some a → ∃ j, i ≤ j ∧ j < i + k ∧ f j = some a
  | 0, i, h => by cases h
  | k + 1, i, h => by
    rw [srch] at h
    cases q : f i with
    | none =>
      rw [q] at h
      obtain ⟨j, h1, h2, h3⟩ := srch_in k (i + 1) h
      exact ⟨j, by omega, by omega, h3⟩
    | some b =>
      rw [q] at h
      exact ⟨i, Nat.le_refl _, by omega, by rw [q]; exact h⟩
theorem aD_aV {d : Nat → Int32} {s m i k : Nat} (hk : k < s) : aD d s m i k = (aV d m i k).toInt := if_pos hk
theorem riL_D {d : Nat → Int32} {m : Nat} {b : Int32} {x y : Int} : riL d m b x y = x * rD d m b 0 + y * rD d m b 1 := by
  unfold riL
  have e : ∀ i (z : Int), (if i < m then (rS d m b i).toInt * z else 0) = z * rD d m b i := fun i z => by
    by_cases h : i < m
    · rw [if_pos h, Int.mul_comm]
      rfl
    · rw [if_neg h, rD_z (by omega), Int.mul_zero]
  rw [e, e]
theorem dvd_em {n a x r : Int} : n ∣ x * a + r ↔ n ∣ (x % n) * a + r := by
  have e : x * a + r = ((x % n) * a + r) + n * ((x / n) * a) := by
    have := Int.emod_add_mul_ediv x n
    grind
  rw [e]
  exact Int.dvd_add_left (Int.dvd_mul_right _ _)
theorem rowE_no {d : Nat → Int32} {s m : Nat} {b : Int32} (hs : s ≤ 4) (hm : m ≤ 2) (h : hitX (aD d s m) s (rD d m b)) : modOK d s m b (rowE d s m b) := by
  have no := hit_no hs h
  unfold rowE
  rw [if_neg no]
  obtain ⟨mo, m1, m2, x, y, h1, h2⟩ := h
  have mp : (0 : Int) < mo := by omega
  have x0 := Int.emod_nonneg x (show (mo : Int) ≠ 0 by omega)
  have x1 := Int.emod_lt_of_pos x mp
  have y0 := Int.emod_nonneg y (show (mo : Int) ≠ 0 by omega)
  have y1 := Int.emod_lt_of_pos y mp
  obtain ⟨X, hX⟩ : ∃ X : Nat, (X : Int) = x % mo := ⟨(x % mo).toNat, by omega⟩
  obtain ⟨Y, hY⟩ : ∃ Y : Nat, (Y : Int) = y % mo := ⟨(y % mo).toNat, by omega⟩
  have red : ∀ a c : Int, (mo : Int) ∣ x * a + y * c ↔ (mo : Int) ∣ a * X + c * Y := fun a c => by
    rw [dvd_em (x := x), Int.add_comm, dvd_em (x := y), Int.add_comm, ← hX, ← hY, Int.mul_comm, Int.mul_comm (Y : Int)]
  have hd : hitD d s m b mo X Y := by
    refine ⟨fun u hu => ?_, fun w => h2 ?_⟩
    · have := (red _ _).mp (h1 u hu)
      rw [aD_aV hu, aD_aV hu] at this
      exact this
    · rw [riL_D] at w
      refine (red _ _).mpr ?_
      rw [Int.mul_comm, Int.mul_comm (rD d m b 1)]
      exact w
  have m0 : m ≠ 0 := fun e => h2 (by
    rw [rD_z (i := 0) (by omega), rD_z (i := 1) (by omega), Int.mul_zero, Int.mul_zero]
    exact Int.dvd_zero _)
  have hd' : ∃ Y', Y' < nY m mo ∧ hitD d s m b mo X Y' := by
    unfold nY
    by_cases e : m ≤ 1
    · rw [if_pos e]
      refine ⟨0, by omega, fun u hu => ?_, fun w => hd.2 ?_⟩
      · have := hd.1 u hu
        unfold muL at this ⊢
        rw [← aD_aV (s := s) (i := 1) hu, aD_z (by omega), Int.zero_mul] at this ⊢
        exact this
      · rw [riL_D, rD_z (i := 1) (by omega), Int.mul_zero] at w ⊢
        exact w
    · rw [if_neg e]
      exact ⟨Y, by omega, hd⟩
  obtain ⟨Y', y2, hd'⟩ := hd'
  have n1 : fH d s m b mo X Y' ≠ none := by
    unfold fH
    rw [if_pos hd']
    exact fun z => by cases z
  have n2 : fY d s m b mo X ≠ none := srch_ok _ _ ⟨Y', Nat.zero_le _, by omega, n1⟩
  have n3 : fX d s m b mo ≠ none := srch_ok _ _ ⟨X, Nat.zero_le _, by omega, n2⟩
  have n4 : srch (fX d s m b) 998 2 ≠ none := srch_ok _ _ ⟨mo, by omega, by omega, n3⟩
  cases q : srch (fX d s m b) 998 2 with
  | none => exact absurd q n4
  | some t =>
    obtain ⟨k, k1, k2, k3⟩ := srch_in _ _ q
    obtain ⟨X2, _, k4, k5⟩ := srch_in _ _ k3
    obtain ⟨Y2, _, k6, k7⟩ := srch_in _ _ k5
    have k8 : hitD d s m b k X2 Y2 ∧ t = (k, X2, Y2) := by
      unfold fH at k7
      by_cases e : hitD d s m b k X2 Y2
      · rw [if_pos e] at k7
        cases k7
        exact ⟨e, rfl⟩
      · rw [if_neg e] at k7
        cases k7
    obtain ⟨k8, rfl⟩ := k8
    have ki : (nI k).toInt = (k : Int) := nI_toInt (by omega)
    have xi : (nI X2).toInt = (X2 : Int) := nI_toInt (by omega)
    have y3 : Y2 < 1000 := by
      unfold nY at k6
      by_cases e : m ≤ 1
      · rw [if_pos e] at k6
        omega
      · rw [if_neg e] at k6
        omega
    have yi : (nI Y2).toInt = (Y2 : Int) := nI_toInt (by omega)
    rw [rowD]
    by_cases e : m ≤ 1
    · rw [if_pos e]
      unfold nY at k6
      rw [if_pos e] at k6
      have yz : Y2 = 0 := by omega
      subst yz
      refine ⟨by show 2 = m + 1; omega, ?_, fun u hu => ?_, ?_⟩
      · show 2 ≤ (nI k).toInt
        omega
      · show (nI k).toInt ∣ muL d m u (nI X2).toInt (0 : Int32).toInt
        rw [ki, xi]
        exact k8.1 u hu
      · show ¬ (nI k).toInt ∣ riL d m b (nI X2).toInt (0 : Int32).toInt
        rw [ki, xi]
        exact k8.2
    · rw [if_neg e]
      refine ⟨by show 3 = m + 1; omega, ?_, fun u hu => ?_, ?_⟩
      · show 2 ≤ (nI k).toInt
        omega
      · show (nI k).toInt ∣ muL d m u (nI X2).toInt (nI Y2).toInt
        rw [ki, xi, yi]
        exact k8.1 u hu
      · show ¬ (nI k).toInt ∣ riL d m b (nI X2).toInt (nI Y2).toInt
        rw [ki, xi, yi]
        exact k8.2
end
