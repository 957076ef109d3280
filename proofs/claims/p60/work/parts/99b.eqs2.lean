/-! THE PURE PART, equations: the modulus' judge; weak duality. -/
section
def muL (d : Nat → Int32) (m u : Nat) (x y : Int) : Int := (aV d m 0 u).toInt * x + (aV d m 1 u).toInt * y
def riL (d : Nat → Int32) (m : Nat) (b : Int32) (x y : Int) : Int := (if 0 < m then (rS d m b 0).toInt * x else 0) + (if 1 < m then (rS d m b 1).toInt * y else 0)
theorem T_areMult {F e s m : Nat} {b : Int32} {d : Nat → Int32} {V : mV} {M X Y : Int64} (hF : 64 ≤ F) (hs : s ≤ 4) (hm : m ≤ 16) (hd : qD d s m b) (hq : enQ V e s m b d) (hM : 0 < M.toInt) (hX : X.toInt.natAbs ≤ 2147483648) (hY : Y.toInt.natAbs ≤ 2147483648) : mTo (mX8_areMultiples F e M X Y V) (fun v => (v = 0 ∨ v = 1) ∧ (v ≠ 0 ↔ ∀ u, u < s → M.toInt ∣ muL d m u X.toInt Y.toInt)) := by
  have go : ∀ k' u, s < u + k' → u ≤ s → (∀ t, t < u → M.toInt ∣ muL d m t X.toInt Y.toInt) → mTo (mX8_areMultiples_go F k' 0 e M X Y (nI u) V) (fun v => (v = 0 ∨ v = 1) ∧ (v ≠ 0 ↔ ∀ u, u < s → M.toInt ∣ muL d m u X.toInt Y.toInt)) := by
    intro k'
    induction k' with
    | zero => intro u h1 h2; omega
    | succ k ih =>
      intro u h1 h2 hh
      rw [mX8_areMultiples_go, if_pos rfl]
      unfold mX8_areMultiples_b0
      refine mTo.le hq.1 rfl (by omega) (by omega) (fun z => mTo.ret ⟨Or.inr rfl, fun _ t ht => hh t (by omega), fun _ => (by decide : (1 : Int32) ≠ 0)⟩) (fun z => mTo.so (T_aV (i := 0) hm (by omega) (show u < 5 by omega) rfl rfl hq) (mTo.so (T_aV (i := 1) hm (by omega) (show u < 5 by omega) rfl rfl hq) (mTo.lt ?_)))
      have p0 := mul_nb (aV_b (i := 0) hd (Or.inl z)) hX
      have p1 := mul_nb (aV_b (i := 1) hd (Or.inl z)) hY
      have e0 : ((aV d m 0 u).toInt64 * X).toInt = (aV d m 0 u).toInt * X.toInt := by rw [J_mul (by rw [I_J]; omega) (by rw [I_J]; omega), I_J]
      have e1 : ((aV d m 1 u).toInt64 * Y).toInt = (aV d m 1 u).toInt * Y.toInt := by rw [J_mul (by rw [I_J]; omega) (by rw [I_J]; omega), I_J]
      have es : ((aV d m 0 u).toInt64 * X + (aV d m 1 u).toInt64 * Y).toInt = muL d m u X.toInt Y.toInt := by
        rw [J_add (by rw [e0, e1]; omega) (by rw [e0, e1]; omega), e0, e1]
        rfl
      have nope : ¬ M.toInt ∣ muL d m u X.toInt Y.toInt → mTo (some (0 : Int32)) (fun v => (v = 0 ∨ v = 1) ∧ (v ≠ 0 ↔ ∀ u, u < s → M.toInt ∣ muL d m u X.toInt Y.toInt)) := fun w => mTo.ret ⟨Or.inl rfl, fun y => absurd rfl y, fun y => absurd (y u z) w⟩
      refine mTo.ite (fun y => ?_) (fun _ => mTo.ite (fun y => ?_) (fun _ => mTo.ite (fun y => mTo.lt ?_) (fun y => nope (fun w => y ?_))))
      · have y := (lg_cmp_lt _ _).mp y
        have y := Int64.lt_iff_toInt_lt.mp y
        rw [show (1 : Int64).toInt = 1 from rfl] at y
        omega
      · rw [y, show (0 : Int64).toInt = 0 from rfl] at hM
        omega
      · have y := (J_rem hM).mp ((lg_cmp_eq _ _).mp y)
        rw [es] at y
        rw [nI_1]
        refine ih (u + 1) (by omega) (by omega) (fun t ht => ?_)
        by_cases w : t = u
        · rw [w]
          exact y
        · exact hh t (by omega)
      · exact (lg_cmp_eq _ _).mpr ((J_rem hM).mpr (by rw [es]; exact w))
  unfold mX8_areMultiples mX8_areMultiples_s
  exact go F 0 (by omega) (Nat.zero_le _) (fun t ht => absurd ht (Nat.not_lt_zero _))
theorem T_isNoMult {F e s m : Nat} {b : Int32} {d : Nat → Int32} {V : mV} {M X Y : Int64} (hF : 64 ≤ F) (hm : m ≤ 16) (hd : qD d s m b) (hq : enQ V e s m b d) (hM : 0 < M.toInt) (hX : X.toInt.natAbs ≤ 2147483648) (hY : Y.toInt.natAbs ≤ 2147483648) : mTo (mX8_isNoMultiple F e M X Y V) (fun v => (v = 0 ∨ v = 1) ∧ (v ≠ 0 ↔ ¬ M.toInt ∣ riL d m b X.toInt Y.toInt)) := by
  have fin : ∀ S : Int64, S.toInt = riL d m b X.toInt Y.toInt → mTo (if (lg_cmp M (1 : Int64)) < 0 then some ((0 : Int32)) else (if M = 0 then none else (if (lg_cmp (S - S / M * M) (0 : Int64)) = 0 then some ((0 : Int32)) else some ((1 : Int32))))) (fun v => (v = 0 ∨ v = 1) ∧ (v ≠ 0 ↔ ¬ M.toInt ∣ riL d m b X.toInt Y.toInt)) := by
    intro S hS
    refine mTo.ite (fun y => ?_) (fun _ => mTo.ite (fun y => ?_) (fun _ => mTo.ite (fun y => mTo.ret ⟨Or.inl rfl, fun w => absurd rfl w, fun w => absurd ?_ w⟩) (fun y => mTo.ret ⟨Or.inr rfl, fun _ w => y ?_, fun _ => (by decide : (1 : Int32) ≠ 0)⟩)))
    · have y := (lg_cmp_lt _ _).mp y
      have y := Int64.lt_iff_toInt_lt.mp y
      rw [show (1 : Int64).toInt = 1 from rfl] at y
      omega
    · rw [y, show (0 : Int64).toInt = 0 from rfl] at hM
      omega
    · rw [← hS]
      exact (J_rem hM).mp ((lg_cmp_eq _ _).mp y)
    · exact (lg_cmp_eq _ _).mpr ((J_rem hM).mpr (by rw [hS]; exact w))
  have p0 := mul_nb (rS_b (i := 0) hd) hX
  have p1 := mul_nb (rS_b (i := 1) hd) hY
  have e0 : ((rS d m b 0).toInt64 * X).toInt = (rS d m b 0).toInt * X.toInt := by rw [J_mul (by rw [I_J]; omega) (by rw [I_J]; omega), I_J]
  have e1 : ((rS d m b 1).toInt64 * Y).toInt = (rS d m b 1).toInt * Y.toInt := by rw [J_mul (by rw [I_J]; omega) (by rw [I_J]; omega), I_J]
  have sec : ∀ S : Int64, S.toInt = (if 0 < m then (rS d m b 0).toInt * X.toInt else 0) → mTo (mX8_isNoMultiple_go F F 0 e M Y S V) (fun v => (v = 0 ∨ v = 1) ∧ (v ≠ 0 ↔ ¬ M.toInt ∣ riL d m b X.toInt Y.toInt)) := by
    intro S hS
    obtain ⟨k, rfl⟩ : ∃ k, F = k + 1 := ⟨F - 1, by omega⟩
    rw [mX8_isNoMultiple_go, if_pos rfl]
    unfold mX8_isNoMultiple_b0
    refine mTo.le (b := 1) hq.2.1 rfl (by omega) (by omega) (fun z => fin S ?_) (fun z => mTo.so (T_rS (i := 1) hm (by omega) (by omega) rfl hq) (mTo.lt (fin _ ?_)))
    · unfold riL
      rw [if_neg (c := 1 < m) (by omega), hS, Int.add_zero]
    · rw [if_pos (c := 0 < m) (by omega)] at hS
      unfold riL
      rw [if_pos (c := 0 < m) (by omega), if_pos (c := 1 < m) z, J_add (by rw [e1, hS]; omega) (by rw [e1, hS]; omega), e1, hS]
  unfold mX8_isNoMultiple mX8_isNoMultiple_s
  refine mTo.le (b := 0) hq.2.1 rfl (by omega) (by omega) (fun z => sec 0 ?_) (fun z => mTo.so (T_rS (i := 0) hm (by omega) (by omega) rfl hq) (mTo.lt (sec _ ?_)))
  · rw [if_neg (by omega)]
    rfl
  · rw [if_pos z, J_add (by rw [e0, show (0 : Int64).toInt = 0 from rfl]; omega) (by rw [e0, show (0 : Int64).toInt = 0 from rfl]; omega), e0, show (0 : Int64).toInt = 0 from rfl, Int.zero_add]
def modOK (d : Nat → Int32) (s m : Nat) (b : Int32) (xs : List Int32) : Prop := xs.length = m + 1 ∧ 2 ≤ (xs.getD 0 0).toInt ∧ (∀ u, u < s → (xs.getD 0 0).toInt ∣ muL d m u (xs.getD 1 0).toInt (xs.getD 2 0).toInt) ∧ ¬ (xs.getD 0 0).toInt ∣ riL d m b (xs.getD 1 0).toInt (xs.getD 2 0).toInt
theorem T_judgeModulus {F e r s m : Nat} {Ln : Nat → Nat} {b : Int32} {d : Nat → Int32} {xs : List Int32} {V : mV} (hF : 64 ≤ F) (hs : s ≤ 4) (hm : m ≤ 16) (hd : qD d s m b) (hq : enQ V e s m b d) (hR : rowIs Ln V r xs) : mTo (mX8_judgeModulus F Ln e r V) (fun v => v = 0 ↔ modOK d s m b xs) := by
  have n := hR.n
  have no : ∀ {P : Prop}, (1 : Int32) = 0 → P := fun z => absurd z (by decide)
  have a0 := T_rAt (F := F) (j := 0) hR (by omega)
  have a1 := T_rAt (F := F) (j := 1) hR (by omega)
  have a2 := T_rAt (F := F) (j := 2) hR (by omega)
  unfold mX8_judgeModulus
  refine mTo.eqI hR.1 (by rw [hq.2.1]; exact nI_1 m) (by omega) (by omega) (fun h1 => mTo.so a0 (mTo.ite (fun h2 => ?_) (fun h2 => mTo.ret ⟨fun y => no y, fun y => absurd (i32le.mpr (show (2 : Int32).toInt ≤ (xs.getD 0 0).toInt from y.2.1)) h2⟩))) (fun h1 => mTo.ret ⟨fun y => no y, fun y => absurd y.1 h1⟩)
  have h2 : (2 : Int32).toInt ≤ (xs.getD 0 0).toInt := i32le.mp h2
  have h2 : 2 ≤ (xs.getD 0 0).toInt := h2
  have n1 := i32_nb (xs.getD 1 0)
  have n2 := i32_nb (xs.getD 2 0)
  have A := T_areMult (F := F) (M := (xs.getD 0 0).toInt64) (X := (xs.getD 1 0).toInt64) (Y := (xs.getD 2 0).toInt64) hF hs hm hd hq (by rw [I_J]; omega) (by rw [I_J]; exact n1) (by rw [I_J]; exact n2)
  have B := T_isNoMult (F := F) (M := (xs.getD 0 0).toInt64) (X := (xs.getD 1 0).toInt64) (Y := (xs.getD 2 0).toInt64) hF hm hd hq (by rw [I_J]; omega) (by rw [I_J]; exact n1) (by rw [I_J]; exact n2)
  rw [I_J, I_J, I_J] at A B
  refine mTo.so a0 (mTo.so a1 (mTo.so a2 (mTo.N A (fun v _ q => mTo.tf q (fun hc => mTo.ret ⟨fun y => absurd (show (2 : Int32) = 0 from y) (by decide), fun y => absurd y.2.2.1 hc⟩) (fun hc => mTo.so a0 (mTo.so a1 (mTo.so a2 (mTo.N B (fun v _ q => mTo.tf q (fun hn => mTo.ret ⟨fun y => absurd (show (3 : Int32) = 0 from y) (by decide), fun y => absurd y.2.2.2 hn⟩) (fun hn => mTo.ret ⟨fun _ => ⟨h1, h2, hc, hn⟩, fun _ => rfl⟩))))))))))
theorem sm_mu {d : Nat → Int32} {m : Nat} {mo x y : Int} {ys : List Int32} : ∀ s, (∀ u, u < s → mo ∣ muL d m u x y) → mo ∣ smD d m 0 ys s * x + smD d m 1 ys s * y
  | 0, _ => by
    rw [smD, smD, Int.zero_mul, Int.zero_mul]
    exact Int.dvd_zero mo
  | s + 1, h => by
    have ih := sm_mu (ys := ys) s (fun u hu => h u (by omega))
    have h1 := h s (by omega)
    have e : smD d m 0 ys (s + 1) * x + smD d m 1 ys (s + 1) * y = (smD d m 0 ys s * x + smD d m 1 ys s * y) + muL d m s x y * (ys.getD s 0).toInt := by
      rw [smD, smD]
      unfold muL
      grind
    rw [e]
    exact Int.dvd_add ih (Int.dvd_mul_of_dvd_left h1)
theorem smD_0 {d : Nat → Int32} {m i : Nat} {ys : List Int32} (h : m ≤ i) : ∀ s, smD d m i ys s = 0
  | 0 => rfl
  | s + 1 => by
    rw [smD, smD_0 h s]
    unfold aV
    rw [if_neg (by omega), show (0 : Int32).toInt = 0 from rfl, Int.zero_mul, Int.add_zero]
/-- WEAK DUALITY: no unknowns and no modulus together -/
theorem unk_mod {d : Nat → Int32} {s m : Nat} {b : Int32} {xs ys : List Int32} (h1 : unkOK d s m b ys) (h2 : modOK d s m b xs) : False := by
  obtain ⟨_, _, h3, h4⟩ := h2
  have h5 := sm_mu (ys := ys) s h3
  refine h4 ?_
  have e : riL d m b (xs.getD 1 0).toInt (xs.getD 2 0).toInt = smD d m 0 ys s * (xs.getD 1 0).toInt + smD d m 1 ys s * (xs.getD 2 0).toInt := by
    unfold riL
    by_cases z : 0 < m
    · rw [if_pos z, ← h1.2 0 z]
      by_cases y : 1 < m
      · rw [if_pos y, ← h1.2 1 y]
      · rw [if_neg y, smD_0 (i := 1) (by omega), Int.zero_mul]
    · rw [if_neg z, if_neg (by omega), smD_0 (i := 0) (by omega), smD_0 (i := 1) (by omega), Int.zero_mul, Int.zero_mul]
  rw [e]
  exact h5
end
