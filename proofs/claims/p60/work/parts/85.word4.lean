/-! THE PURE PART, words: the judges; weak duality. -/
section
def fw (A : Nat → Nat) (m : Nat) : Nat := if m = 0 then 1 else A 0
def inW (b : Nat) (xs : List Int32) : Prop := ∀ i, i < xs.length → ∃ w, 0 < w ∧ w < 2 ^ (b + 1) ∧ xs.getD i 0 = nI w
theorem inW.p {b i : Nat} {xs : List Int32} (h : inW b xs) (hb : b ≤ 7) (hi : i < xs.length) : 0 < pX xs i ∧ pX xs i < 2 ^ (b + 1) ∧ xs.getD i 0 = nI (pX xs i) := by
  have p8 : (2 : Nat) ^ (b + 1) ≤ 2 ^ 8 := Nat.pow_le_pow_right (by decide) (by omega)
  obtain ⟨w, a, c, e⟩ := h i hi
  rw [pX_eq e (by omega)]
  exact ⟨a, c, e⟩
theorem inW_iff {b : Nat} {xs : List Int32} (hb : b ≤ 7) : inW b xs ↔ ∀ i, 0 ≤ i → i < xs.length → ¬ xs.getD i 0 < 1 ∧ xs.getD i 0 ≤ nI (2 ^ (b + 1)) - 1 := by
  have p8 : (2 : Nat) ^ (b + 1) ≤ 2 ^ 8 := Nat.pow_le_pow_right (by decide) (by omega)
  have p0 := Nat.two_pow_pos (b + 1)
  obtain ⟨t, ht⟩ : ∃ t, 2 ^ (b + 1) = t + 1 := ⟨2 ^ (b + 1) - 1, by omega⟩
  rw [ht, nI_pred]
  constructor
  · intro h i _ hi
    obtain ⟨w, a, c, e⟩ := h i hi
    rw [e, show (1 : Int32) = nI 1 from rfl, nI_ltI (by omega) (by omega), nI_leI (by omega) (by omega)]
    omega
  · intro h i hi
    obtain ⟨h1, h2⟩ := h i (Nat.zero_le _) hi
    have pos : ¬ xs.getD i 0 < 0 := fun z => h1 (i32lt.mpr (by have := i32lt.mp z; have e0 : (0 : Int32).toInt = 0 := rfl; have e1 : (1 : Int32).toInt = 1 := rfl; omega))
    obtain ⟨j, j1, j2⟩ := nI_of pos
    rw [j2, show (1 : Int32) = nI 1 from rfl, nI_ltI (by omega) (by omega)] at h1
    rw [j2, nI_leI (by omega) (by omega)] at h2
    exact ⟨j, by omega, by omega, j2⟩
def stepsOK (A B : Nat → Nat) (b m : Nat) (xs : List Int32) : Prop := xs.length ≠ 0 ∧ inW b xs ∧ xs.getD 0 0 = nI (fw A m) ∧ xs.getD (xs.length - 1) 0 = nI (fw B m) ∧ ∀ i, i + 1 < xs.length → stp A B b m (pX xs i) (pX xs (i + 1))
def closOK (A B : Nat → Nat) (b m : Nat) (xs : List Int32) : Prop := inW b xs ∧ (∀ i, 0 ≤ i → i + 1 < xs.length → xs.getD i 0 < xs.getD (i + 1) 0) ∧ (fw A m < 2 ^ (b + 1) → rowSt xs (fw A m) = true) ∧ rowSt xs (fw B m) = false ∧ ∀ i, i < xs.length → ∀ u, stp A B b m (pX xs i) u → rowSt xs u = true
theorem fw_b {A B : Nat → Nat} {m : Nat} {d : Nat → Int32} (hd : qW d m A B) : 0 < fw A m ∧ fw A m < 256 ∧ 0 < fw B m ∧ fw B m < 256 := by
  unfold fw
  by_cases z : m = 0
  · rw [if_pos z, if_pos z]
    omega
  · rw [if_neg z, if_neg z]
    obtain ⟨_, _, a, b, c, e, _⟩ := hd 0 (by omega)
    exact ⟨a, c, b, e⟩
theorem T_first {F e s m : Nat} {b : Int32} {A B : Nat → Nat} {d : Nat → Int32} {V : mV} (hm : m ≤ 6) (hd : qW d m A B) (hq : enQ V e s m b d) : mX10_firstWord F e V = some (nI (fw A m)) := by
  unfold mX10_firstWord fw
  rw [hq.2.1]
  by_cases z : m = 0
  · rw [if_pos z, z, if_pos (by decide)]
    rfl
  · rw [if_neg z, if_neg (nI_nle (by omega) (by omega))]
    have := T_item (F := F) (j := 0) (k := 0) (kx := 0) hq.2.1 (by omega) (by omega) (by omega) rfl ((hq.2.2.2 0 (by omega)).trans (hd 0 (by omega)).1)
    rw [show (0 : Int32) = nI 0 from rfl] at *
    rw [this]
    rfl
theorem T_second {F e s m : Nat} {b : Int32} {A B : Nat → Nat} {d : Nat → Int32} {V : mV} (hm : m ≤ 6) (hd : qW d m A B) (hq : enQ V e s m b d) : mX10_secondWord F e V = some (nI (fw B m)) := by
  unfold mX10_secondWord fw
  rw [hq.2.1]
  by_cases z : m = 0
  · rw [if_pos z, z, if_pos (by decide)]
    rfl
  · rw [if_neg z, if_neg (nI_nle (by omega) (by omega))]
    have := T_item (F := F) (j := 0) (k := 1) (kx := 1) hq.2.1 (by omega) (by omega) (by omega) rfl ((hq.2.2.2 1 (by omega)).trans (hd 0 (by omega)).2.1)
    rw [show (0 : Int32) = nI 0 from rfl]
    rw [this]
    rfl
theorem T_beyond {F e s m b : Nat} {d : Nat → Int32} {V : mV} (hb : b ≤ 7) (hq : enQ V e s m (nI b) d) : mX10_beyondWords F e V = some (nI (2 ^ (b + 1))) := by
  have p8 : (2 : Nat) ^ (b + 1) ≤ 2 ^ 8 := Nat.pow_le_pow_right (by decide) (by omega)
  have e2 : (2 : Nat) ^ (b + 1) = 2 * 2 ^ b := by rw [Nat.pow_succ, Nat.mul_comm]
  unfold mX10_beyondWords
  rw [hq.2.2.1, show (2 : Int32) = nI 2 from rfl, nb_shl (by omega) (by omega), e2]
theorem T_isNext {F e s m b w v : Nat} {A B : Nat → Nat} {d : Nat → Int32} {V : mV} (hF : 128 ≤ F) (he : 256 ≤ e) (hb : b ≤ 7) (hm : m ≤ 6) (hw : w < 2 ^ (b + 1)) (w0 : 0 < w) (hv : v < 256) (hd : qW d m A B) (hq : enQ V e s m (nI b) d) : mTo (mX10_isNext F e (nI w) (nI v) V) (fun p => ((p.1 = 0 ∨ p.1 = 1) ∧ (p.1 ≠ 0 ↔ stp A B b m w v)) ∧ mAv (wX10_isNext e) V p.2) := by
  have p8 : (2 : Nat) ^ (b + 1) ≤ 2 ^ 8 := Nat.pow_le_pow_right (by decide) (by omega)
  have mem := fun u => nxl_mem (u := u) hd hb hw w0
  have ll := nxl_len (A := A) (B := B) (b := b) hm (show w < 256 by omega) w0
  have main : mTo (mX10_isNext F e (nI w) (nI v) V) (fun p => (p.1 = 0 ∨ p.1 = 1) ∧ (p.1 ≠ 0 ↔ stp A B b m w v)) := by
    unfold mX10_isNext mX10_isNext_s
    refine mTo.W (T_findNext (by omega) he hb hm hw w0 hd hq) (fun a V1 _ q => ?_)
    obtain ⟨q1, _⟩ := q
    have q1 : nxS V1 (nxl A B b m w) := q1
    generalize hl : nxl A B b m w = l at *
    have go : ∀ k' j, l.length < j + k' → j ≤ l.length → (∀ i, i < j → l.getD i 0 ≠ v) → mTo (mX10_isNext_go F k' 0 (nI v) (nI j) V1) (fun p => (p.1 = 0 ∨ p.1 = 1) ∧ (p.1 ≠ 0 ↔ stp A B b m w v)) := by
      intro k'
      induction k' with
      | zero => intro j h1 h2; omega
      | succ k ih =>
        intro j h1 h2 hn
        rw [mX10_isNext_go, if_pos rfl]
        unfold mX10_isNext_b0
        refine mTo.le q1.1 rfl (by omega) (by omega) (fun h => mTo.ret ⟨Or.inl rfl, fun z => absurd rfl z, fun z => ?_⟩) (fun h => mTo.ix rfl (by omega) (by omega) ?_)
        · obtain ⟨i, i1, i2⟩ := mem_getD ((mem v).mpr z)
          exact absurd i2 (hn i (by omega))
        · obtain ⟨_, u1⟩ := stp_b hd ((mem _).mp (getD_mem h))
          refine mTo.eqI (by rw [nI_clamp (by omega), q1.2 j h]) rfl (by omega) (by omega) (fun e1 => mTo.ret ⟨Or.inr rfl, fun _ => (mem v).mp (by rw [← e1]; exact getD_mem h), fun _ => (by decide : (1 : Int32) ≠ 0)⟩) (fun e1 => mTo.lt ?_)
          rw [nI_1]
          refine ih (j + 1) (by omega) (by omega) (fun i hi => ?_)
          by_cases z : i = j
          · rw [z]
            exact e1
          · exact hn i (by omega)
    exact go F 0 (by omega) (Nat.zero_le _) (fun i hi => absurd hi (Nat.not_lt_zero _))
  obtain ⟨p, e1, q⟩ := main
  exact ⟨p, e1, q, NX10_isNext (v := p.1) e1⟩
theorem T_judgeSteps {F e r s m b : Nat} {Ln : Nat → Nat} {A B : Nat → Nat} {d : Nat → Int32} {xs : List Int32} {V : mV} (hF : 2 ^ 12 ≤ F) (he : 256 ≤ e) (hr : 256 ≤ r) (hb : b ≤ 7) (hm : m ≤ 6) (hd : qW d m A B) (hq : enQ V e s m (nI b) d) (hR : rowIs Ln V r xs) : mTo (mX10_judgeSteps F Ln e r V) (fun p => p.1 = 0 ↔ stepsOK A B b m xs) := by
  have p8 : (2 : Nat) ^ (b + 1) ≤ 2 ^ 8 := Nat.pow_le_pow_right (by decide) (by omega)
  have n := hR.n
  obtain ⟨f1, f2, f3, f4⟩ := fw_b hd
  have no : ∀ {P : Prop}, (1 : Int32) = 0 → P := fun z => absurd z (by decide)
  unfold mX10_judgeSteps mX10_judgeSteps_s
  refine mTo.lt ?_
  rcases Nat.eq_zero_or_pos xs.length with z | z
  · rw [hR.1, z, if_pos (by decide)]
    exact mTo.ret ⟨fun y => no y, fun y => absurd z y.1⟩
  · obtain ⟨t, ht⟩ : ∃ t, xs.length = t + 1 := ⟨xs.length - 1, by omega⟩
    rw [hR.1, ht, nI_pred, if_neg (nI_pos (by omega))]
    refine mTo.so (T_beyond hb hq) (mTo.N (T_rWithin (j := 0) (by omega) hR (by omega)) (fun v _ q => mTo.tf q (fun hc => mTo.ret ⟨fun y => no y, fun y => absurd ((inW_iff hb).mp y.2.1) hc⟩) (fun hc => ?_)))
    have hi := (inW_iff hb).mpr hc
    refine mTo.so (T_rAt (j := 0) hR (by omega)) (mTo.so (T_first hm hd hq) ?_)
    refine mTo.ite (fun e1 => mTo.so (T_rAt hR (by omega)) (mTo.so (T_second hm hd hq) (mTo.ite (fun e2 => ?_) (fun e2 => mTo.ret ⟨fun y => no y, fun y => absurd ?_ e2⟩)))) (fun e1 => mTo.ret ⟨fun y => no y, fun y => absurd y.2.2.1 e1⟩)
    · have go : ∀ k' j (V : mV), t < j + k' → j ≤ t → enQ V e s m (nI b) d → rowIs Ln V r xs → (∀ i, i < j → stp A B b m (pX xs i) (pX xs (i + 1))) → mTo (mX10_judgeSteps_go F k' 0 Ln e r (nI t) (nI j) V) (fun p => p.1 = 0 ↔ stepsOK A B b m xs) := by
        intro k'
        induction k' with
        | zero => intro j V h1 h2; omega
        | succ k ih =>
          intro j V h1 h2 hq hR hs
          rw [mX10_judgeSteps_go, if_pos rfl]
          unfold mX10_judgeSteps_b0
          refine mTo.le rfl rfl (by omega) (by omega) (fun h => mTo.ret ⟨fun _ => ⟨by omega, hi, e1, by rw [ht, Nat.add_sub_cancel]; exact e2, fun i hi' => hs i (by omega)⟩, fun _ => rfl⟩) (fun h => ?_)
          obtain ⟨a1, a2, a3⟩ := hi.p hb (show j < xs.length by omega)
          obtain ⟨c1, c2, c3⟩ := hi.p hb (show j + 1 < xs.length by omega)
          rw [nI_1]
          refine mTo.so (T_rAt hR (by omega)) (mTo.so (T_rAt hR (by omega)) ?_)
          rw [a3, c3]
          refine mTo.W (T_isNext (F := F) (by omega) he hb hm a2 a1 (by omega) hd hq) (fun a V1 _ q => ?_)
          obtain ⟨q1, q2⟩ := q
          have q1 : (a = 0 ∨ a = 1) ∧ (a ≠ 0 ↔ stp A B b m (pX xs j) (pX xs (j + 1))) := q1
          have q2 : mAv (wX10_isNext e) V V1 := q2
          refine mTo.tf q1 (fun y => mTo.ret ⟨fun w => absurd (show (2 : Int32) = 0 from w) (by decide), fun w => absurd (w.2.2.2.2 j (by omega)) y⟩) (fun y => mTo.lt ?_)
          refine ih (j + 1) V1 (by omega) (by omega) (hq.mv q2 (by unfold wX10_isNext; omega) (by unfold wX10_isNext; omega)) (hR.mv q2 (by unfold wX10_isNext; omega) (by unfold wX10_isNext; omega)) (fun i hi' => ?_)
          by_cases w : i = j
          · rw [w]
            exact y
          · exact hs i (by omega)
      exact go F 0 V (by omega) (Nat.zero_le _) hq hR (fun i hi' => absurd hi' (Nat.not_lt_zero _))
    · have := y.2.2.2.1
      rw [ht, Nat.add_sub_cancel] at this
      exact this
theorem T_rHolds {F v r : Nat} {Ln : Nat → Nat} {V : mV} {xs : List Int32} {x : Int32} (hF : 64 ≤ F) (hR : rowIs Ln V r xs) (hri : ∀ i, 0 ≤ i → i + 1 < xs.length → xs.getD i 0 < xs.getD (i + 1) 0) (hx : x = nI v) : mTo (mX9_holds F Ln r (0 : Int32) x V) (fun w => w = 0 ↔ rowSt xs v = false) := by
  refine (T_has hF hR.1 hR.2.1 hR.L (fun i hi => by rw [hR.2.2.2 i (by omega), hR.2.2.2 (i + 1) hi]; exact hri i (Nat.zero_le _) hi) hx).mono (fun w hw => ?_)
  rw [rowHas_eq hR] at hw
  exact hw
theorem T_judgeClosure {F e r s m b : Nat} {Ln : Nat → Nat} {A B : Nat → Nat} {d : Nat → Int32} {xs : List Int32} {V : mV} (hF : 2 ^ 18 ≤ F) (he : 256 ≤ e) (hr : 256 ≤ r) (hb : b ≤ 7) (hm : m ≤ 6) (hd : qW d m A B) (hq : enQ V e s m (nI b) d) (hR : rowIs Ln V r xs) : mTo (mX10_judgeClosure F Ln e r V) (fun p => p.1 = 0 ↔ closOK A B b m xs) := by
  have p8 : (2 : Nat) ^ (b + 1) ≤ 2 ^ 8 := Nat.pow_le_pow_right (by decide) (by omega)
  have n := hR.n
  obtain ⟨f1, f2, f3, f4⟩ := fw_b hd
  have no : ∀ {P : Prop}, (1 : Int32) = 0 → P := fun z => absurd z (by decide)
  have no2 : ∀ {P : Prop}, (2 : Int32) = 0 → P := fun z => absurd z (by decide)
  unfold mX10_judgeClosure mX10_judgeClosure_s
  refine mTo.so (T_beyond hb hq) (mTo.N (T_rWithin (j := 0) (by omega) hR (by omega)) (fun v _ q => mTo.tf q (fun hc => mTo.ret ⟨fun y => no y, fun y => absurd ((inW_iff hb).mp y.1) hc⟩) (fun hc => ?_)))
  have hi := (inW_iff hb).mpr hc
  refine mTo.N (T_rRising (j := 0) (by omega) hR (by omega)) (fun v _ q => mTo.tf q (fun hc => mTo.ret ⟨fun y => no y, fun y => absurd y.2.1 hc⟩) (fun hri => mTo.so (T_first hm hd hq) ?_))
  have go : (fw A m < 2 ^ (b + 1) → rowSt xs (fw A m) = true) → rowSt xs (fw B m) = false → ∀ k', (∀ i (V : mV), (xs.length - i) * 100 + 1 ≤ k' → i ≤ xs.length → enQ V e s m (nI b) d → rowIs Ln V r xs → (∀ t, t < i → ∀ u, stp A B b m (pX xs t) u → rowSt xs u = true) → mTo (mX10_judgeClosure_go F k' 0 Ln e r (nI i) 0 V) (fun p => p.1 = 0 ↔ closOK A B b m xs)) ∧ (∀ i j (V : mV), (xs.length - i - 1) * 100 + (90 - j) + 2 ≤ k' → i < xs.length → j ≤ (nxl A B b m (pX xs i)).length → enQ V e s m (nI b) d → rowIs Ln V r xs → nxS V (nxl A B b m (pX xs i)) → (∀ t, t < i → ∀ u, stp A B b m (pX xs t) u → rowSt xs u = true) → (∀ t, t < j → rowSt xs ((nxl A B b m (pX xs i)).getD t 0) = true) → mTo (mX10_judgeClosure_go F k' 1 Ln e r (nI i) (nI j) V) (fun p => p.1 = 0 ↔ closOK A B b m xs)) := by
    intro g1 g2 k'
    induction k' with
    | zero => exact ⟨fun i V h => by omega, fun i j V h => by omega⟩
    | succ k ih =>
      obtain ⟨ih0, ih1⟩ := ih
      refine ⟨fun i V h1 h2 hq hR hs => ?_, fun i j V h1 h2 h3 hq hR hN hs hl => ?_⟩
      · rw [mX10_judgeClosure_go, if_pos rfl]
        unfold mX10_judgeClosure_b0
        refine mTo.le hR.1 rfl (by omega) (by omega) (fun h => mTo.ret ⟨fun _ => ⟨hi, hri, g1, g2, fun t ht => hs t (by omega)⟩, fun _ => rfl⟩) (fun h => mTo.so (T_rAt hR (by omega)) ?_)
        obtain ⟨a1, a2, a3⟩ := hi.p hb h
        rw [a3]
        refine mTo.W (T_findNext (F := F) (by omega) he hb hm a2 a1 hd hq) (fun a V1 _ q => ?_)
        obtain ⟨q1, q2⟩ := q
        have q2 : mAv (wX10_findNext e) V V1 := q2
        exact ih1 i 0 V1 (by omega) h (Nat.zero_le _) (hq.mv q2 (by unfold wX10_findNext; omega) (by unfold wX10_findNext; omega)) (hR.mv q2 (by unfold wX10_findNext; omega) (by unfold wX10_findNext; omega)) q1 hs (fun t ht => absurd ht (Nat.not_lt_zero _))
      · obtain ⟨a1, a2, a3⟩ := hi.p hb h2
        have mem := fun u => nxl_mem (u := u) hd hb a2 a1
        have ll := nxl_len (A := A) (B := B) (b := b) hm (show pX xs i < 256 by omega) a1
        rw [mX10_judgeClosure_go, if_neg (by decide), if_pos rfl]
        unfold mX10_judgeClosure_b1
        refine mTo.le hN.1 rfl (by omega) (by omega) (fun h => mTo.lt ?_) (fun h => mTo.ix rfl (by omega) (by omega) ?_)
        · rw [nI_1]
          refine ih0 (i + 1) V (by omega) (by omega) hq hR (fun t ht u hu => ?_)
          by_cases z : t = i
          · rw [z] at hu
            obtain ⟨x, x1, x2⟩ := mem_getD ((mem u).mpr hu)
            rw [← x2]
            exact hl x (by omega)
          · exact hs t (by omega) u hu
        · refine mTo.N (T_rHolds (by omega) hR hri (by rw [nI_clamp (by omega), hN.2 j h])) (fun w _ hw => mTo.ite (fun z => mTo.ret ⟨fun y => absurd (show (3 : Int32) = 0 from y) (by decide), fun y => ?_⟩) (fun z => mTo.lt ?_))
          · have := y.2.2.2.2 i h2 _ ((mem _).mp (getD_mem h))
            rw [hw.mp z] at this
            exact absurd this (by decide)
          · rw [nI_1]
            refine ih1 i (j + 1) V (by omega) h2 (by omega) hq hR hN hs (fun t ht => ?_)
            by_cases y : t = j
            · rw [y]
              cases q : rowSt xs ((nxl A B b m (pX xs i)).getD j 0) with
              | true => rfl
              | false => exact absurd (hw.mpr q) z
            · exact hl t (by omega)
  have start : (fw A m < 2 ^ (b + 1) → rowSt xs (fw A m) = true) → mTo (mBN (mX10_secondWord F e V) fun v45 => (mBN (mX9_holds F Ln r ((0 : Int32)) (v45) V) fun v50 => (if v50 = 0 then (mX10_judgeClosure_go F F 0 Ln e r ((0 : Int32)) 0 V) else some ((2 : Int32), V)))) (fun p => p.1 = 0 ↔ closOK A B b m xs) := fun g1 => by
    refine mTo.so (T_second hm hd hq) (mTo.N (T_rHolds (by omega) hR hri rfl) (fun w _ hw => mTo.ite (fun z => ?_) (fun z => mTo.ret ⟨fun y => no2 y, fun y => absurd (hw.mpr y.2.2.2.1) z⟩)))
    exact (go g1 (hw.mp z) F).1 0 V (by omega) (Nat.zero_le _) hq hR (fun t ht => absurd ht (Nat.not_lt_zero _))
  refine mTo.le rfl rfl (by omega) (by omega) (fun z => start (fun y => by omega)) (fun z => mTo.N (T_rHolds (by omega) hR hri rfl) (fun w _ hw => mTo.ite (fun y => mTo.ret ⟨fun q => no2 q, fun q => ?_⟩) (fun y => start (fun _ => ?_))))
  · have := q.2.2.1 z
    rw [hw.mp y] at this
    exact absurd this (by decide)
  · cases q : rowSt xs (fw A m) with
    | true => rfl
    | false => exact absurd (hw.mpr q) y
theorem steps_clos {A B : Nat → Nat} {b m : Nat} {d : Nat → Int32} {xs ys : List Int32} (hb : b ≤ 7) (hd : qW d m A B) (h1 : stepsOK A B b m xs) (h2 : closOK A B b m ys) : False := by
  have p8 : (2 : Nat) ^ (b + 1) ≤ 2 ^ 8 := Nat.pow_le_pow_right (by decide) (by omega)
  obtain ⟨a1, a2, a3, a4, a5⟩ := h1
  obtain ⟨b1, b2, b3, b4, b5⟩ := h2
  obtain ⟨f1, f2, f3, f4⟩ := fw_b hd
  have p0 : pX xs 0 = fw A m := pX_eq a3 (by omega)
  have pl : pX xs (xs.length - 1) = fw B m := pX_eq a4 (by omega)
  have key : ∀ i, i < xs.length → rowSt ys (pX xs i) = true := fun i => by
    induction i with
    | zero =>
      intro hi
      rw [p0]
      refine b3 ?_
      rw [← p0]
      exact (a2.p hb hi).2.1
    | succ i ih =>
      intro hi
      obtain ⟨j, j1, j2⟩ := rowSt_iff.mp (ih (by omega))
      have hp := (a2.p hb (show i < xs.length by omega)).2.1
      refine b5 j j1 _ ?_
      rw [pX_eq j2 (by omega)]
      exact a5 i hi
  have := key (xs.length - 1) (by omega)
  rw [pl, b4] at this
  exact absurd this (by decide)
end
