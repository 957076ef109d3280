/-! THE PURE PART, inequalities: the judges; weak duality. -/
section
/-- the numbers that are told -/
def qL (d : Nat → Int32) (s m : Nat) (b : Int32) : Prop := (∀ i, i < m → (∀ k, k < s → (d (5 * i + k)).toInt.natAbs ≤ 9) ∧ (d (5 * i + 4)).toInt.natAbs ≤ 60) ∧ b.toInt.natAbs ≤ 60
def tmI (d : Nat → Int32) (m i u : Nat) : Int32 := if i < m then d (5 * i + u) else 1
def lmI (d : Nat → Int32) (m : Nat) (b : Int32) (i : Nat) : Int32 := if i < m then d (5 * i + 4) else b
def tmZ (d : Nat → Int32) (m i u : Nat) : Int := (tmI d m i u).toInt
def lmZ (d : Nat → Int32) (m : Nat) (b : Int32) (i : Nat) : Int := (lmI d m b i).toInt
theorem tmZ_b {d : Nat → Int32} {s m i u : Nat} {b : Int32} (h : qL d s m b) (hu : u < s) : (tmZ d m i u).natAbs ≤ 9 := by
  unfold tmZ tmI
  by_cases z : i < m
  · rw [if_pos z]
    exact (h.1 i z).1 u hu
  · rw [if_neg z]
    decide
theorem lmZ_b {d : Nat → Int32} {s m i : Nat} {b : Int32} (h : qL d s m b) : (lmZ d m b i).natAbs ≤ 60 := by
  unfold lmZ lmI
  by_cases z : i < m
  · rw [if_pos z]
    exact (h.1 i z).2
  · rw [if_neg z]
    exact h.2
theorem T_times {F e s m i u : Nat} {b : Int32} {d : Nat → Int32} {V : mV} (hm : m ≤ 16) (hi : i < 2 ^ 20) (hu : u < 5) (hq : enQ V e s m b d) : mX5_times F e (nI i) (nI u) V = some (tmI d m i u) := by
  unfold mX5_times tmI
  obtain ⟨v, h1, h2⟩ := T_X3_at (F := F) (j := i) (k := u) hq.2.1 hm hi hu
  rw [hq.2.1, h1, h2]
  by_cases z : i < m
  · rw [if_pos z, if_pos z, if_neg (show ¬ nI m ≤ nI i from fun y => by
      have := (nI_leI (by omega) (by omega)).mp y
      omega), hq.2.2.2 _ (by omega)]
    rfl
  · rw [if_pos ((nI_leI (by omega) (by omega)).mpr (by omega)), if_neg z]
theorem T_limit {F e s m i : Nat} {b : Int32} {d : Nat → Int32} {V : mV} (hm : m ≤ 16) (hi : i < 2 ^ 20) (hq : enQ V e s m b d) : mX5_limitOf F e (nI i) V = some (lmI d m b i) := by
  unfold mX5_limitOf lmI
  obtain ⟨v, h1, h2⟩ := T_X3_at (F := F) (j := i) (k := 4) hq.2.1 hm hi (by omega)
  have h1 : mX3_at F e (nI i) 4 V = some v := h1
  rw [hq.2.1, h1, h2]
  by_cases z : i < m
  · rw [if_pos z, if_pos z, if_neg (show ¬ nI m ≤ nI i from fun y => by
      have := (nI_leI (by omega) (by omega)).mp y
      omega), hq.2.2.2 _ (by omega)]
    rfl
  · rw [if_pos ((nI_leI (by omega) (by omega)).mpr (by omega)), if_neg z, hq.2.2.1]
/-- the left side, by the numbers of a row behind its first -/
def lsL (d : Nat → Int32) (m i : Nat) (xs : List Int32) (u : Nat) : Int := dsz u (fun u => tmZ d m i u * (xs.getD (u + 1) 0).toInt)
theorem lsL_b {d : Nat → Int32} {s m i : Nat} {b : Int32} {xs : List Int32} (h : qL d s m b) (u : Nat) (hu : u ≤ s) : (lsL d m i xs u).natAbs ≤ u * 19327352832 := dsz_B u (fun j hj => mul_nb (tmZ_b h (by omega)) (i32_nb _))
theorem T_left {F e r s m i : Nat} {Ln : Nat → Nat} {b : Int32} {d : Nat → Int32} {xs : List Int32} {V : mV} (hF : 1024 ≤ F) (hs : s ≤ 4) (hm : m ≤ 16) (hi : i < 2 ^ 20) (hd : qL d s m b) (hq : enQ V e s m b d) (hR : rowIs Ln V r xs) : mX5_leftSideBy F Ln e (nI i) r V = some (jO (lsL d m i xs s)) := by
  have go : ∀ k' u, s - u + 1 ≤ k' → u ≤ s → mTo (mX5_leftSideBy_go F k' 0 Ln e (nI i) r (jO (lsL d m i xs u)) (nI u) V) (fun v => v = jO (lsL d m i xs s)) := by
    intro k'
    induction k' with
    | zero => exact fun u h => by omega
    | succ k ih =>
      intro u h1 h2
      rw [mX5_leftSideBy_go, if_pos rfl]
      unfold mX5_leftSideBy_b0
      refine mTo.le hq.1 rfl (by omega) (by omega) (fun z => mTo.ret (by rw [show u = s by omega])) (fun z => mTo.so (T_times hm hi (by omega) hq) ?_)
      rw [nI_1]
      refine mTo.so (T_rAt hR (by omega)) (mTo.lt (mTo.lt ?_))
      rw [jO_32, jO_32, jO_mul, jO_add]
      exact ih (u + 1) (by omega) (by omega)
  unfold mX5_leftSideBy mX5_leftSideBy_s
  obtain ⟨v, h1, h2⟩ := go F 0 (by omega) (Nat.zero_le _)
  rw [h2] at h1
  exact h1
theorem T_right {F e r s m i : Nat} {Ln : Nat → Nat} {b : Int32} {d : Nat → Int32} {xs : List Int32} {V : mV} (hm : m ≤ 16) (hi : i < 2 ^ 20) (hq : enQ V e s m b d) (hR : rowIs Ln V r xs) : mX5_rightSideBy F Ln e (nI i) r V = some (jO (lmZ d m b i * (xs.getD 0 0).toInt)) := by
  unfold mX5_rightSideBy
  rw [T_limit hm hi hq]
  show mBN (mX9_at F Ln r 0 V) _ = _
  have h : mX9_at F Ln r 0 V = some (xs.getD 0 0) := T_rAt (j := 0) hR (by omega)
  rw [h, ← jO_mul, ← jO_32]
  unfold lmZ
  rw [← jO_32]
  rfl
/-- the witness' row -/
def unfOK (d : Nat → Int32) (s m : Nat) (b : Int32) (xs : List Int32) : Prop := xs.length = s + 1 ∧ 1 ≤ (xs.getD 0 0).toInt ∧ (∀ j, j < s → 0 ≤ (xs.getD (j + 1) 0).toInt) ∧ ∀ i, i ≤ m → lsL d m i xs s ≤ lmZ d m b i * (xs.getD 0 0).toInt
/-- the refutation's row -/
def wgtOK (d : Nat → Int32) (s m : Nat) (b : Int32) (xs : List Int32) : Prop := xs.length = m + 2 ∧ 1 ≤ (xs.getD 0 0).toInt ∧ (∀ j, j < m + 1 → 0 ≤ (xs.getD (j + 1) 0).toInt) ∧ (∀ u, u < s → 0 ≤ dsz (m + 1) (fun i => tmZ d m i u * (xs.getD (i + 1) 0).toInt)) ∧ dsz (m + 1) (fun i => lmZ d m b i * (xs.getD (i + 1) 0).toInt) = -(xs.getD 0 0).toInt
theorem sw3 (p t q : Int) : p * (t * q) = q * (t * p) := by rw [Int.mul_left_comm, Int.mul_left_comm q, Int.mul_comm p]
theorem unf_wgt {d : Nat → Int32} {s m : Nat} {b : Int32} {xs ys : List Int32} (h1 : unfOK d s m b xs) (h2 : wgtOK d s m b ys) : False := by
  obtain ⟨_, x0, xp, xi⟩ := h1
  obtain ⟨_, y0, yp, yu, ys0⟩ := h2
  have e : dsz (m + 1) (fun i => (ys.getD (i + 1) 0).toInt * lsL d m i xs s) = dsz s (fun u => (xs.getD (u + 1) 0).toInt * dsz (m + 1) (fun i => tmZ d m i u * (ys.getD (i + 1) 0).toInt)) := by
    have e1 : dsz (m + 1) (fun i => (ys.getD (i + 1) 0).toInt * lsL d m i xs s) = dsz (m + 1) (fun i => dsz s (fun u => (ys.getD (i + 1) 0).toInt * (tmZ d m i u * (xs.getD (u + 1) 0).toInt))) := dsz_congr _ (fun i _ => (dsz_mul s).symm)
    have e2 : dsz s (fun u => (xs.getD (u + 1) 0).toInt * dsz (m + 1) (fun i => tmZ d m i u * (ys.getD (i + 1) 0).toInt)) = dsz s (fun u => dsz (m + 1) (fun i => (xs.getD (u + 1) 0).toInt * (tmZ d m i u * (ys.getD (i + 1) 0).toInt))) := dsz_congr _ (fun i _ => (dsz_mul (m + 1)).symm)
    rw [e1, e2, dsz_swap]
    refine dsz_congr _ (fun u _ => dsz_congr _ (fun i _ => ?_))
    show (ys.getD (i + 1) 0).toInt * (tmZ d m i u * (xs.getD (u + 1) 0).toInt) = (xs.getD (u + 1) 0).toInt * (tmZ d m i u * (ys.getD (i + 1) 0).toInt)
    generalize (ys.getD (i + 1) 0).toInt = p
    generalize (xs.getD (u + 1) 0).toInt = q
    exact sw3 _ _ _
  have nn := dsz_le0 (f := fun u => -((xs.getD (u + 1) 0).toInt * dsz (m + 1) (fun i => tmZ d m i u * (ys.getD (i + 1) 0).toInt))) s (fun u hu => by
    have := Int.mul_nonneg (xp u hu) (yu u hu)
    show -((xs.getD (u + 1) 0).toInt * dsz (m + 1) (fun i => tmZ d m i u * (ys.getD (i + 1) 0).toInt)) ≤ 0
    omega)
  rw [dsz_neg] at nn
  have le := dsz_le0 (f := fun i => (ys.getD (i + 1) 0).toInt * lsL d m i xs s + -((xs.getD 0 0).toInt * (lmZ d m b i * (ys.getD (i + 1) 0).toInt))) (m + 1) (fun i hi => by
    have := Int.mul_le_mul_of_nonneg_left (xi i (by omega)) (yp i hi)
    have e3 : (ys.getD (i + 1) 0).toInt * (lmZ d m b i * (xs.getD 0 0).toInt) = (xs.getD 0 0).toInt * (lmZ d m b i * (ys.getD (i + 1) 0).toInt) := by
      generalize (ys.getD (i + 1) 0).toInt = p
      generalize (xs.getD 0 0).toInt = q
      exact sw3 _ _ _
    show (ys.getD (i + 1) 0).toInt * lsL d m i xs s + -((xs.getD 0 0).toInt * (lmZ d m b i * (ys.getD (i + 1) 0).toInt)) ≤ 0
    omega)
  rw [dsz_add, dsz_neg, dsz_mul, ys0, e] at le
  have := Int.mul_pos (show 0 < (xs.getD 0 0).toInt by omega) (show 0 < (ys.getD 0 0).toInt by omega)
  rw [Int.mul_neg] at le
  omega
theorem T_judgeUnf {F e r s m : Nat} {Ln : Nat → Nat} {b : Int32} {d : Nat → Int32} {xs : List Int32} {V : mV} (hF : 2048 ≤ F) (hs : s ≤ 4) (hm : m ≤ 16) (hd : qL d s m b) (hq : enQ V e s m b d) (hR : rowIs Ln V r xs) : mTo (mX5_judgeUnknowns F Ln e r V) (fun v => v = 0 ↔ unfOK d s m b xs) := by
  have n := hR.n
  have go : xs.length = s + 1 → 1 ≤ (xs.getD 0 0).toInt → (∀ j, j < s → 0 ≤ (xs.getD (j + 1) 0).toInt) → ∀ k' i, m + 1 - i + 1 ≤ k' → i ≤ m + 1 → (∀ t, t < i → lsL d m t xs s ≤ lmZ d m b t * (xs.getD 0 0).toInt) → mTo (mX5_judgeUnknowns_go F k' 0 Ln e r (nI i) V) (fun v => v = 0 ↔ unfOK d s m b xs) := by
    intro a1 a2 a3 k'
    induction k' with
    | zero => exact fun i h => by omega
    | succ k ih =>
      intro i h1 h2 hh
      rw [mX5_judgeUnknowns_go, if_pos rfl]
      unfold mX5_judgeUnknowns_b0
      refine mTo.ltI hq.2.1 rfl (by omega) (by omega) (fun z => mTo.ret ⟨fun _ => ⟨a1, a2, a3, fun t ht => hh t (by omega)⟩, fun _ => rfl⟩) (fun z => mTo.so (T_left (by omega) hs hm (by omega) hd hq hR) (mTo.so (T_right hm (by omega) hq hR) ?_))
      have b1 := lsL_b (i := i) (xs := xs) hd s (Nat.le_refl _)
      have b2 := mul_nb (lmZ_b (i := i) hd) (i32_nb (xs.getD 0 0))
      refine mTo.ite (fun y => mTo.lt ?_) (fun y => ?_)
      · rw [nI_1]
        refine ih (i + 1) (by omega) (by omega) (fun t ht => ?_)
        by_cases w : t = i
        · rw [w]
          exact (lg_cmp_le2 (by omega) (by omega)).mp y
        · exact hh t (by omega)
      · have no : ¬ unfOK d s m b xs := fun w => y ((lg_cmp_le2 (by omega) (by omega)).mpr (w.2.2.2 i (by omega)))
        exact mTo.ite (fun _ => mTo.ret ⟨fun w => absurd (show (4 : Int32) = 0 from w) (by decide), fun w => absurd w no⟩) (fun _ => mTo.ret ⟨fun w => absurd (show (3 : Int32) = 0 from w) (by decide), fun w => absurd w no⟩)
  unfold mX5_judgeUnknowns mX5_judgeUnknowns_s
  refine mTo.eqI hR.1 (show V.fI e 1 + 1 = nI (s + 1) by rw [hq.1, nI_1]) (by omega) (by omega) (fun z => ?_) (fun z => mTo.ret ⟨fun y => absurd (show (1 : Int32) = 0 from y) (by decide), fun y => absurd y.1 z⟩)
  refine mTo.so (v := xs.getD 0 0) (T_rAt (j := 0) hR (by omega)) (mTo.ite (fun y => ?_) (fun y => mTo.ret ⟨fun w => absurd (show (1 : Int32) = 0 from w) (by decide), fun w => absurd (show (1 : Int32) ≤ xs.getD 0 0 from Int32.le_iff_toInt_le.mpr w.2.1) y⟩))
  have y1 : 1 ≤ (xs.getD 0 0).toInt := Int32.le_iff_toInt_le.mp y
  refine mTo.N (T_rWithin (j := 1) hF hR (by omega)) (fun v _ q => mTo.tf q (fun w => mTo.ret ⟨fun u => absurd (show (2 : Int32) = 0 from u) (by decide), fun u => absurd ?_ w⟩) (fun w => ?_))
  · intro i h1 h2
    have := u.2.2.1 (i - 1) (by omega)
    rw [show i - 1 + 1 = i by omega] at this
    refine ⟨fun c => ?_, ?_⟩
    · have c := Int32.lt_iff_toInt_lt.mp c
      rw [show (0 : Int32).toInt = 0 from rfl] at c
      omega
    · rw [Int32.le_iff_toInt_le]
      have := Int32.toInt_lt (xs.getD i 0)
      rw [show (2147483647 : Int32).toInt = 2147483647 from rfl]
      omega
  · refine go z y1 (fun j hj => ?_) F 0 (by omega) (Nat.zero_le _) (fun t ht => absurd ht (Nat.not_lt_zero _))
    have := (w (j + 1) (by omega) (by omega)).1
    refine Int.not_lt.mp fun c => this (Int32.lt_iff_toInt_lt.mpr ?_)
    rw [show (0 : Int32).toInt = 0 from rfl]
    exact c
def lwS (d : Nat → Int32) (m u : Nat) (xs : List Int32) (k : Nat) : Int := dsz k (fun i => tmZ d m i u * (xs.getD (i + 1) 0).toInt)
def lwR (d : Nat → Int32) (m : Nat) (b : Int32) (xs : List Int32) (k : Nat) : Int := dsz k (fun i => lmZ d m b i * (xs.getD (i + 1) 0).toInt)
theorem lwS_b {d : Nat → Int32} {s m u : Nat} {b : Int32} {xs : List Int32} (h : qL d s m b) (hu : u < s) (k : Nat) : (lwS d m u xs k).natAbs ≤ k * 19327352832 := dsz_B k (fun j _ => mul_nb (tmZ_b h hu) (i32_nb _))
theorem lwR_b {d : Nat → Int32} {s m : Nat} {b : Int32} {xs : List Int32} (h : qL d s m b) (k : Nat) : (lwR d m b xs k).natAbs ≤ k * 128849018880 := dsz_B k (fun j _ => mul_nb (lmZ_b h) (i32_nb _))
theorem lg_cmp_ge0 {x : Int} (hx : x.natAbs < 2 ^ 62) : 0 ≤ lg_cmp (jO x) 0 ↔ 0 ≤ x := by
  have h := cmpge (x := x) (y := 0) hx (show (0 : Int).natAbs < 2 ^ 62 by decide)
  rw [jO_0] at h
  exact h
theorem T_judgeWgt {F e r s m : Nat} {Ln : Nat → Nat} {b : Int32} {d : Nat → Int32} {xs : List Int32} {V : mV} (hF : 2048 ≤ F) (hs : s ≤ 4) (hm : m ≤ 16) (hd : qL d s m b) (hq : enQ V e s m b d) (hR : rowIs Ln V r xs) : mTo (mX5_judgeWeights F Ln e r V) (fun v => v = 0 ↔ wgtOK d s m b xs) := by
  have n := hR.n
  have go : xs.length = m + 2 → 1 ≤ (xs.getD 0 0).toInt → (∀ j, j < m + 1 → 0 ≤ (xs.getD (j + 1) 0).toInt) → ∀ k', (∀ u, (s - u) * 20 + 20 ≤ k' → u ≤ s → (∀ t, t < u → 0 ≤ lwS d m t xs (m + 1)) → mTo (mX5_judgeWeights_go F k' 0 Ln e r (nI (m + 1)) (nI u) 0 0 0 0 V) (fun v => v = 0 ↔ wgtOK d s m b xs)) ∧ (∀ u i, (s - u - 1) * 20 + 20 + (m + 1 - i) + 1 ≤ k' → u < s → i ≤ m + 1 → (∀ t, t < u → 0 ≤ lwS d m t xs (m + 1)) → mTo (mX5_judgeWeights_go F k' 1 Ln e r (nI (m + 1)) (nI u) 0 (jO (lwS d m u xs i)) 0 (nI i) V) (fun v => v = 0 ↔ wgtOK d s m b xs)) ∧ (∀ i, m + 1 - i + 1 ≤ k' → i ≤ m + 1 → (∀ t, t < s → 0 ≤ lwS d m t xs (m + 1)) → mTo (mX5_judgeWeights_go F k' 2 Ln e r (nI (m + 1)) 0 (jO (lwR d m b xs i)) 0 (nI i) 0 V) (fun v => v = 0 ↔ wgtOK d s m b xs)) := by
    intro a1 a2 a3 k'
    induction k' with
    | zero => exact ⟨fun u h => by omega, fun u i h => by omega, fun i h => by omega⟩
    | succ k ih =>
      obtain ⟨ih0, ih1, ih2⟩ := ih
      refine ⟨fun u h1 h2 hh => ?_, fun u i h1 h2 h3 hh => ?_, fun i h1 h2 hh => ?_⟩
      · rw [mX5_judgeWeights_go, if_pos rfl]
        unfold mX5_judgeWeights_b0
        exact mTo.le hq.1 rfl (by omega) (by omega) (fun z => ih2 0 (by omega) (Nat.zero_le _) (fun t ht => hh t (by omega))) (fun z => ih1 u 0 (by omega) z (Nat.zero_le _) hh)
      · rw [mX5_judgeWeights_go, if_neg (by decide), if_pos rfl]
        unfold mX5_judgeWeights_b1
        have b1 := lwS_b (xs := xs) hd h2 i
        refine mTo.le rfl rfl (by omega) (by omega) (fun z => ?_) (fun z => mTo.so (T_times hm (by omega) (by omega) hq) ?_)
        · have : i = m + 1 := by omega
          subst this
          refine mTo.ite (fun y => mTo.lt ?_) (fun y => mTo.ret ⟨fun w => absurd (show (3 : Int32) = 0 from w) (by decide), fun w => absurd ((lg_cmp_ge0 (x := lwS d m u xs (m + 1)) (by omega)).mpr (w.2.2.2.1 u h2)) y⟩)
          rw [nI_1]
          refine ih0 (u + 1) (by omega) (by omega) (fun t ht => ?_)
          by_cases w : t = u
          · rw [w]
            exact (lg_cmp_ge0 (by omega)).mp y
          · exact hh t (by omega)
        · rw [nI_1]
          refine mTo.so (T_rAt hR (by omega)) (mTo.lt (mTo.lt ?_))
          rw [jO_32, jO_32, jO_mul, jO_add]
          exact ih1 u (i + 1) (by omega) h2 (by omega) hh
      · rw [mX5_judgeWeights_go, if_neg (by decide), if_neg (by decide), if_pos rfl]
        unfold mX5_judgeWeights_b2
        have b1 := lwR_b (xs := xs) hd i
        refine mTo.le rfl rfl (by omega) (by omega) (fun z => mTo.so (v := xs.getD 0 0) (T_rAt (j := 0) hR (by omega)) ?_) (fun z => mTo.so (T_limit hm (by omega) hq) ?_)
        · have : i = m + 1 := by omega
          subst this
          have b2 := i32_nb (xs.getD 0 0)
          rw [jO_32, jO_neg]
          refine mTo.ite (fun y => mTo.ret ⟨fun _ => ⟨a1, a2, a3, hh, ?_⟩, fun _ => rfl⟩) (fun y => mTo.ret ⟨fun w => absurd (show (4 : Int32) = 0 from w) (by decide), fun w => absurd ((cmp0 (x := lwR d m b xs (m + 1)) (by omega) (by omega)).mpr w.2.2.2.2) y⟩)
          exact (cmp0 (x := lwR d m b xs (m + 1)) (by omega) (by omega)).mp y
        · rw [nI_1]
          refine mTo.so (T_rAt hR (by omega)) (mTo.lt (mTo.lt ?_))
          rw [jO_32, jO_32, jO_mul, jO_add]
          exact ih2 (i + 1) (by omega) (by omega) hh
  unfold mX5_judgeWeights mX5_judgeWeights_s
  refine mTo.lt ?_
  rw [hq.2.1, nI_1, nI_1]
  refine mTo.eqI hR.1 rfl (by omega) (by omega) (fun z => ?_) (fun z => mTo.ret ⟨fun y => absurd (show (1 : Int32) = 0 from y) (by decide), fun y => absurd y.1 z⟩)
  refine mTo.so (v := xs.getD 0 0) (T_rAt (j := 0) hR (by omega)) (mTo.ite (fun y => ?_) (fun y => mTo.ret ⟨fun w => absurd (show (1 : Int32) = 0 from w) (by decide), fun w => absurd (show (1 : Int32) ≤ xs.getD 0 0 from Int32.le_iff_toInt_le.mpr w.2.1) y⟩))
  have y1 : 1 ≤ (xs.getD 0 0).toInt := Int32.le_iff_toInt_le.mp y
  refine mTo.N (T_rWithin (j := 1) hF hR (by omega)) (fun v _ q => mTo.tf q (fun w => mTo.ret ⟨fun u => absurd (show (2 : Int32) = 0 from u) (by decide), fun u => absurd ?_ w⟩) (fun w => ?_))
  · intro i h1 h2
    have := u.2.2.1 (i - 1) (by omega)
    rw [show i - 1 + 1 = i by omega] at this
    refine ⟨fun c => ?_, ?_⟩
    · have c := Int32.lt_iff_toInt_lt.mp c
      rw [show (0 : Int32).toInt = 0 from rfl] at c
      omega
    · rw [Int32.le_iff_toInt_le]
      have := Int32.toInt_lt (xs.getD i 0)
      rw [show (2147483647 : Int32).toInt = 2147483647 from rfl]
      omega
  · refine (go z y1 (fun j hj => ?_) F).1 0 (by omega) (Nat.zero_le _) (fun t ht => absurd ht (Nat.not_lt_zero _))
    have := (w (j + 1) (by omega) (by omega)).1
    refine Int.not_lt.mp fun c => this (Int32.lt_iff_toInt_lt.mpr ?_)
    rw [show (0 : Int32).toInt = 0 from rfl]
    exact c
end
