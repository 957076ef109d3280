/-! THE PURE PART, equations: sums in long numbers; the judges; weak duality. -/
section
theorem bm64 {z : Int} (h1 : -9223372036854775808 ≤ z) (h2 : z < 9223372036854775808) : Int.bmod z (2 ^ 64) = z := by
  simp only [Int.bmod]
  omega
theorem J_add {x y : Int64} (h1 : -9223372036854775808 ≤ x.toInt + y.toInt) (h2 : x.toInt + y.toInt < 9223372036854775808) : (x + y).toInt = x.toInt + y.toInt := by
  rw [Int64.toInt_add, bm64 h1 h2]
theorem J_mul {x y : Int64} (h1 : -9223372036854775808 ≤ x.toInt * y.toInt) (h2 : x.toInt * y.toInt < 9223372036854775808) : (x * y).toInt = x.toInt * y.toInt := by
  rw [Int64.toInt_mul, bm64 h1 h2]
/-- what is left is 0: a multiple -/
theorem J_rem {x y : Int64} (h0 : 0 < y.toInt) : x - x / y * y = 0 ↔ y.toInt ∣ x.toInt := by
  have b1 := Int64.le_toInt x
  have b2 := Int64.toInt_lt x
  have ne : y ≠ -1 := fun e => by
    rw [e, show (-1 : Int64).toInt = -1 from rfl] at h0
    omega
  have hd : (x / y).toInt = x.toInt.tdiv y.toInt := Int64.toInt_div_of_ne_right _ _ ne
  have key : ∃ P R : Int, x.toInt.tdiv y.toInt * y.toInt = P ∧ x.toInt = P + R ∧ (0 ≤ x.toInt → 0 ≤ P ∧ 0 ≤ R) ∧ (x.toInt < 0 → P ≤ 0 ∧ R ≤ 0) ∧ (R = 0 ↔ y.toInt ∣ x.toInt) := by
    rcases Int.lt_or_le x.toInt 0 with h | h
    · have t1 := Int.neg_tdiv (-x.toInt) y.toInt
      have t2 : (-x.toInt).tdiv y.toInt = -x.toInt / y.toInt := Int.tdiv_eq_ediv_of_nonneg (by omega)
      rw [Int.neg_neg, t2] at t1
      have m1 := Int.mul_ediv_add_emod (-x.toInt) y.toInt
      have m2 := Int.emod_nonneg (-x.toInt) (Int.ne_of_gt h0)
      have m3 : 0 ≤ y.toInt * (-x.toInt / y.toInt) := Int.mul_nonneg (by omega) (Int.ediv_nonneg (by omega) (by omega))
      refine ⟨-(y.toInt * (-x.toInt / y.toInt)), -(-x.toInt % y.toInt), ?_, by omega, fun z => by omega, fun _ => ⟨by omega, by omega⟩, ?_⟩
      · rw [t1, Int.neg_mul, Int.mul_comm]
      · rw [show (-(-x.toInt % y.toInt) = 0 ↔ -x.toInt % y.toInt = 0) by omega, ← Int.dvd_iff_emod_eq_zero, Int.dvd_neg]
    · have m1 := Int.mul_ediv_add_emod x.toInt y.toInt
      have m2 := Int.emod_nonneg x.toInt (Int.ne_of_gt h0)
      have m3 : 0 ≤ y.toInt * (x.toInt / y.toInt) := Int.mul_nonneg (by omega) (Int.ediv_nonneg h (by omega))
      refine ⟨y.toInt * (x.toInt / y.toInt), x.toInt % y.toInt, ?_, by omega, fun _ => ⟨m3, m2⟩, fun z => by omega, ?_⟩
      · rw [Int.tdiv_eq_ediv_of_nonneg h, Int.mul_comm]
      · rw [← Int.dvd_iff_emod_eq_zero]
  obtain ⟨P, R, k1, k2, k3, k4, k5⟩ := key
  have pb : -9223372036854775808 ≤ P ∧ P < 9223372036854775808 := by
    rcases Int.lt_or_le x.toInt 0 with h | h
    · have := k4 h
      omega
    · have := k3 h
      omega
  have hm : (x / y * y).toInt = P := by
    rw [J_mul (by rw [hd, k1]; exact pb.1) (by rw [hd, k1]; exact pb.2), hd, k1]
  have hs : (x - x / y * y).toInt = R := by
    rw [Int64.toInt_sub, hm, show x.toInt - P = R by omega]
    refine bm64 ?_ ?_
    · rcases Int.lt_or_le x.toInt 0 with h | h
      · have := k4 h
        omega
      · have := k3 h
        omega
    · rcases Int.lt_or_le x.toInt 0 with h | h
      · have := k4 h
        omega
      · have := k3 h
        omega
  rw [← k5, ← hs]
  exact ⟨fun e => by rw [e]; rfl, fun e => Int64.toInt_inj.mp e⟩
theorem mul_nb {a b : Int} {M N : Nat} (ha : a.natAbs ≤ M) (hb : b.natAbs ≤ N) : (a * b).natAbs ≤ M * N := by
  rw [Int.natAbs_mul]
  exact Nat.mul_le_mul ha hb
theorem i32_nb (x : Int32) : x.toInt.natAbs ≤ 2147483648 := by
  have := Int32.le_toInt x
  have := Int32.toInt_lt x
  omega
theorem I_J (x : Int32) : x.toInt64.toInt = x.toInt := Int32.toInt_toInt64 x
/-- a number of an item, 0 if there is none -/
def aV (d : Nat → Int32) (m i k : Nat) : Int32 := if i < m then d (5 * i + k) else 0
/-- the right side -/
def rS (d : Nat → Int32) (m : Nat) (b : Int32) (i : Nat) : Int32 := if i + 1 = m then b else aV d m i 4
/-- the numbers that are told -/
def qD (d : Nat → Int32) (s m : Nat) (b : Int32) : Prop := (∀ i, i < m → (∀ k, k < s → (d (5 * i + k)).toInt.natAbs ≤ 6) ∧ (d (5 * i + 4)).toInt.natAbs ≤ 20) ∧ b.toInt.natAbs ≤ 40
theorem aV_b {d : Nat → Int32} {s m i k : Nat} {b : Int32} (h : qD d s m b) (hk : k < s ∨ k = 4) : (aV d m i k).toInt.natAbs ≤ 64 := by
  unfold aV
  by_cases z : i < m
  · rw [if_pos z]
    rcases hk with y | y
    · have := (h.1 i z).1 k y
      omega
    · rw [y]
      have := (h.1 i z).2
      omega
  · rw [if_neg z]
    decide
theorem rS_b {d : Nat → Int32} {s m i : Nat} {b : Int32} (h : qD d s m b) : (rS d m b i).toInt.natAbs ≤ 64 := by
  unfold rS
  by_cases z : i + 1 = m
  · rw [if_pos z]
    have := h.2
    omega
  · rw [if_neg z]
    exact aV_b h (Or.inr rfl)
theorem T_aV {F e s m i k : Nat} {b kx ix : Int32} {d : Nat → Int32} {V : mV} (hm : m ≤ 16) (hi : i < 2 ^ 20) (hk : k < 5) (ei : ix = nI i) (ek : kx = nI k) (hq : enQ V e s m b d) : mX3_at F e ix kx V = some (aV d m i k) := by
  obtain ⟨v, h1, h2⟩ := T_X3_at (F := F) (j := i) (k := k) hq.2.1 hm hi hk
  rw [ei, ek, h1, h2]
  unfold aV
  by_cases z : i < m
  · rw [if_pos z, if_pos z, hq.2.2.2 _ (by omega)]
  · rw [if_neg z, if_neg z]
theorem T_rS {F e s m i : Nat} {b ix : Int32} {d : Nat → Int32} {V : mV} (hm : m ≤ 16) (hm1 : 1 ≤ m) (hi : i < 2 ^ 20) (ei : ix = nI i) (hq : enQ V e s m b d) : mX8_rightSide F e ix V = some (rS d m b i) := by
  unfold mX8_rightSide
  obtain ⟨t, rfl⟩ : ∃ t, m = t + 1 := ⟨m - 1, by omega⟩
  rw [hq.2.1, nI_pred, ei]
  unfold rS
  by_cases z : i = t
  · rw [if_pos (show nI i = nI t by rw [z]), if_pos (by omega), hq.2.2.1]
  · rw [if_neg (fun y => z ((nI_eq (by omega) (by omega)).mp y)), if_neg (by omega), T_aV (F := F) (k := 4) (kx := 4) hm hi (by omega) rfl rfl hq]
    rfl
/-- the sum on the left of the item i, its first u unknowns -/
def smD (d : Nat → Int32) (m i : Nat) (xs : List Int32) : Nat → Int
  | 0 => 0
  | u + 1 => smD d m i xs u + (aV d m i u).toInt * (xs.getD u 0).toInt
theorem smD_b {d : Nat → Int32} {s m i : Nat} {b : Int32} {xs : List Int32} (h : qD d s m b) (u : Nat) (hu : u ≤ s) : (smD d m i xs u).natAbs ≤ u * 137438953472 := by
  induction u with
  | zero =>
    rw [Nat.zero_mul]
    exact Nat.le_refl 0
  | succ u ih =>
    have ih := ih (by omega)
    have p := mul_nb (aV_b (i := i) h (Or.inl (show u < s by omega))) (i32_nb (xs.getD u 0))
    rw [smD]
    omega
def unkOK (d : Nat → Int32) (s m : Nat) (b : Int32) (xs : List Int32) : Prop := xs.length = s ∧ ∀ i, i < m → smD d m i xs s = (rS d m b i).toInt
theorem T_judgeUnknowns {F e r s m : Nat} {Ln : Nat → Nat} {b : Int32} {d : Nat → Int32} {xs : List Int32} {V : mV} (hF : 1024 ≤ F) (hs : s ≤ 4) (hm : m ≤ 16) (hd : qD d s m b) (hq : enQ V e s m b d) (hR : rowIs Ln V r xs) : mTo (mX8_judgeUnknowns F Ln e r V) (fun v => v = 0 ↔ unkOK d s m b xs) := by
  have n := hR.n
  have go : xs.length = s → ∀ k', (∀ i, (m - i) * 10 + 1 ≤ k' → i ≤ m → (∀ t, t < i → smD d m t xs s = (rS d m b t).toInt) → mTo (mX8_judgeUnknowns_go F k' 0 Ln e r (nI i) 0 0 V) (fun v => v = 0 ↔ unkOK d s m b xs)) ∧ (∀ i u (S : Int64), (m - i - 1) * 10 + (s - u) + 3 ≤ k' → i < m → u ≤ s → S.toInt = smD d m i xs u → (∀ t, t < i → smD d m t xs s = (rS d m b t).toInt) → mTo (mX8_judgeUnknowns_go F k' 1 Ln e r (nI i) S (nI u) V) (fun v => v = 0 ↔ unkOK d s m b xs)) := by
    intro hl k'
    induction k' with
    | zero => exact ⟨fun i h => by omega, fun i u S h => by omega⟩
    | succ k ih =>
      obtain ⟨ih0, ih1⟩ := ih
      refine ⟨fun i h1 h2 hh => ?_, fun i u S h1 h2 h3 hS hh => ?_⟩
      · rw [mX8_judgeUnknowns_go, if_pos rfl]
        unfold mX8_judgeUnknowns_b0
        exact mTo.le hq.2.1 rfl (by omega) (by omega) (fun z => mTo.ret ⟨fun _ => ⟨hl, fun t ht => hh t (by omega)⟩, fun _ => rfl⟩) (fun z => ih1 i 0 0 (by omega) z (Nat.zero_le _) rfl hh)
      · rw [mX8_judgeUnknowns_go, if_neg (by decide), if_pos rfl]
        unfold mX8_judgeUnknowns_b1
        have sb := smD_b (i := i) (xs := xs) hd u (by omega)
        refine mTo.le hq.1 rfl (by omega) (by omega) (fun z => mTo.so (T_rS hm (by omega) (by omega) rfl hq) ?_) (fun z => mTo.so (T_aV hm (by omega) (by omega) rfl rfl hq) (mTo.so (T_rAt hR (by omega)) (mTo.lt (mTo.lt ?_))))
        · have : u = s := by omega
          subst this
          refine mTo.ite (fun y => mTo.lt ?_) (fun y => mTo.ret ⟨fun w => absurd (show (2 : Int32) = 0 from w) (by decide), fun w => absurd ?_ y⟩)
          · rw [nI_1]
            refine ih0 (i + 1) (by omega) (by omega) (fun t ht => ?_)
            by_cases w : t = i
            · have := congrArg Int64.toInt ((lg_cmp_eq _ _).mp y)
              rw [I_J, hS] at this
              rw [w]
              exact this
            · exact hh t (by omega)
          · refine (lg_cmp_eq _ _).mpr (Int64.toInt_inj.mp ?_)
            rw [I_J, hS]
            exact w.2 i h2
        · have p := mul_nb (aV_b (i := i) hd (Or.inl (show u < s by omega))) (i32_nb (xs.getD u 0))
          have eM : ((aV d m i u).toInt64 * (xs.getD u 0).toInt64).toInt = (aV d m i u).toInt * (xs.getD u 0).toInt := by
            rw [J_mul (by rw [I_J, I_J]; omega) (by rw [I_J, I_J]; omega), I_J, I_J]
          rw [nI_1]
          refine ih1 i (u + 1) _ (by omega) h2 (by omega) ?_ hh
          rw [J_add (by rw [eM, hS]; omega) (by rw [eM, hS]; omega), eM, hS]
          rfl
  unfold mX8_judgeUnknowns mX8_judgeUnknowns_s
  refine mTo.eqI hR.1 hq.1 (by omega) (by omega) (fun z => (go z F).1 0 (by omega) (Nat.zero_le _) (fun t ht => absurd ht (Nat.not_lt_zero _))) (fun z => mTo.ret ⟨fun y => absurd (show (1 : Int32) = 0 from y) (by decide), fun y => absurd y.1 z⟩)
end
